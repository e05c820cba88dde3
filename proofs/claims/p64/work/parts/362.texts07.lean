set_option maxHeartbeats 4000000 in
set_option maxRecDepth 100000 in
theorem qL_texts_136 {p : Program} {l : Launch} {e : Env} {s : State} {m : MethodId} {args : Array Value} {below : List Frame} {meth : Method} {c : Code} {ρ : bsR} {sc L : Nat} {xs : Nat → Int32} {cA : Nat → ClassId} {dC : Nat → ClassId} {dI : Nat → Nat → Nat} {A : Nat → Prop} {Ts : List Cond} {σ : xA2} {F : va_W} (k102 : (Nat → Nat) → Nat → (Nat → Nat) → Nat → (Nat → Nat) → Nat → Int32 → bsX → pY → Option (Int32 × bsX × pY)) {z : (Int32 × bsX × pY)} (C : xCx p m c cL_texts 7 s args Ts RL ρ sc L xs cA dC dI A meth (some .boolean)) (hst : l.stackTraces = false) {NC102 NS102 : Nat} (hk102 : ∀ (tt0 : (Nat → Nat)) (nn0 : Nat) (tt8 : (Nat → Nat)) (nn8 : Nat) (tt16 : (Nat → Nat)) (nn16 : Nat) (x5 : Int32) (X : bsX) (Z : pY) (θ : xA2) (sb0 : Nat) (sv0 : Nat) (sk0 : Nat) (sa0 : (Nat → Int32)) (sm0 : Int32) (sb8 : Nat) (sv8 : Nat) (sk8 : Nat) (sa8 : (Nat → Int32)) (sm8 : Int32) (sb16 : Nat) (sv16 : Nat) (sk16 : Nat) (sa16 : (Nat → Int32)) (sm16 : Int32) (cl sl : Nat), sb_Lat tt0 nn0 sa0 → sb_Fit sa0 → nn0 ≤ sk0 → sk0 ≤ 1026 → sb_Lat tt8 nn8 sa8 → sb_Fit sa8 → nn8 ≤ sk8 → sk8 ≤ 1026 → sb_Lat tt16 nn16 sa16 → sb_Fit sa16 → nn16 ≤ sk16 → sk16 ≤ 1026 → cl + NC102 ≤ 1877 → sl + NS102 ≤ 291880 → k102 tt0 nn0 tt8 nn8 tt16 nn16 x5 X Z = some z → xV p l e rmL_texts s m args below meth c cl sl (MQ below (xQi ρ cA dC dI A (fun r X' R' => r = z.1 ∧ X' = z.2.1 ∧ ∃ θ' : xA2, R' = lwWs σ θ' cA z.2.2 ++ F)) args s rmL_texts.cells rmL_texts.slots A) ρ cA dC dI A (lwWs σ θ cA Z ++ (F ++ [(sb0, sbC sv0 sm0 (nI nn0)), (sv0, byC cA sk0 sa0), (sb8, sbC sv8 sm8 (nI nn8)), (sv8, byC cA sk8 sa8), (sb16, sbC sv16 sm16 (nI nn16)), (sv16, byC cA sk16 sa16)])) 7 102 [(0, .ref (ρ 13 0 0)), (1, .ref (σ 0 0)), (2, .ref sb0), (3, .ref sb8), (4, .ref sb16), (5, .int x5)] [] X) (hn102 : 1655 ≤ NC102 ∧ 70164 ≤ NS102)  : ∀ (tt0 : (Nat → Nat)) (nn0 : Nat) (tt8 : (Nat → Nat)) (nn8 : Nat) (tt16 : (Nat → Nat)) (nn16 : Nat) (x5 : Int32) (q6 : Nat) (u1 : Nat) (X : bsX) (Z : pY) (θ : xA2) (sb0 : Nat) (sv0 : Nat) (sk0 : Nat) (sa0 : (Nat → Int32)) (sm0 : Int32) (sb8 : Nat) (sv8 : Nat) (sk8 : Nat) (sa8 : (Nat → Int32)) (sm8 : Int32) (sb16 : Nat) (sv16 : Nat) (sk16 : Nat) (sa16 : (Nat → Int32)) (sm16 : Int32) (cl sl : Nat), sb_Lat tt0 nn0 sa0 → sb_Fit sa0 → nn0 ≤ sk0 → sk0 ≤ 1026 → sb_Lat tt8 nn8 sa8 → sb_Fit sa8 → nn8 ≤ sk8 → sk8 ≤ 1026 → sb_Lat tt16 nn16 sa16 → sb_Fit sa16 → nn16 ≤ sk16 → sk16 ≤ 1026 → q6 < ln Z → u1 < 22 → cl + ((25 + NC102)) ≤ 1877 → sl + ((25650 + NS102)) ≤ 291880 → hL_texts_136 k102 tt0 nn0 tt8 nn8 tt16 nn16 x5 q6 u1 X Z = some z → xV p l e rmL_texts s m args below meth c cl sl (MQ below (xQi ρ cA dC dI A (fun r X' R' => r = z.1 ∧ X' = z.2.1 ∧ ∃ θ' : xA2, R' = lwWs σ θ' cA z.2.2 ++ F)) args s rmL_texts.cells rmL_texts.slots A) ρ cA dC dI A (lwWs σ θ cA Z ++ (F ++ [(sb0, sbC sv0 sm0 (nI nn0)), (sv0, byC cA sk0 sa0), (sb8, sbC sv8 sm8 (nI nn8)), (sv8, byC cA sk8 sa8), (sb16, sbC sv16 sm16 (nI nn16)), (sv16, byC cA sk16 sa16)])) 7 136 [(0, .ref (ρ 13 0 0)), (1, .ref (σ 0 0)), (2, .ref sb0), (3, .ref sb8), (4, .ref sb16), (5, .int x5), (6, .ref (σ 5 q6))] [.ref (ρ 16 0 u1), .ref sb0] X := by
  intro tt0 nn0 tt8 nn8 tt16 nn16 x5 q6 u1 X Z θ sb0 sv0 sk0 sa0 sm0 sb8 sv8 sk8 sa8 sm8 sb16 sv16 sk16 sa16 sm16 cl sl hL0 hF0 hN0 hK0 hL8 hF8 hN8 hK8 hL16 hF16 hN16 hK16 hq6 hu1 hcl hsl hf
  rw [hL_texts_136] at hf
  obtain ⟨hg46, hf⟩ := bs_if hf
  refine x_out [] [(sb0, sbC sv0 sm0 (nI nn0)), (sv0, byC cA sk0 sa0)] [(sb8, sbC sv8 sm8 (nI nn8)), (sv8, byC cA sk8 sa8), (sb16, sbC sv16 sm16 (nI nn16)), (sv16, byC cA sk16 sa16)] rfl ?_
  refine x_callVr (y := yJ4_append_15ec4) (As := [.ref (ρ 16 0 u1)]) (rest := []) C (cJ4_append_15ec4_ok (u := u1) hL0 hF0 hN0 hK0 hu1 hg46) (bsG_in 1461 (by decide +kernel) rfl) wyJ4_append_15ec4 ((jd_at _ [(sb0, sbC sv0 sm0 (nI nn0)), (sv0, byC cA sk0 sa0)] 0).trans rfl) rfl dpJ4_append_15ec4 ⟨Nat.le_of_ble_eq_true rfl, Nat.le_of_ble_eq_true rfl⟩ ⟨by show (cl) + 1 ≤ 1877; omega, by show (sl) + 1026 ≤ 291880; omega⟩ rfl (Nat.le_of_ble_eq_true rfl) dL_texts_136 (fun r' X' R' hp => ?_)
  obtain ⟨eA, eX, sv45, sk45, sa45, sm45, eW, hL45, hF45, hN45, hK45⟩ := hp
  rw [eA, eX, eW]
  clear eA eX eW r' X' R'
  refine x_widen (k := (cl + 1)) (n := (sl + 1026)) (by show (cl) + 1 ≤ _; omega) (by show (sl) + 1026 ≤ _; omega) ?_
  refine x_in [] [(sb0, sbC sv45 sm45 (nI (nn0 + stN u1))), (sv45, byC cA sk45 sa45)] [(sb8, sbC sv8 sm8 (nI nn8)), (sv8, byC cA sk8 sa8), (sb16, sbC sv16 sm16 (nI nn16)), (sv16, byC cA sk16 sa16)] (W := [(sb0, sbC sv45 sm45 (nI (nn0 + stN u1))), (sv45, byC cA sk45 sa45), (sb8, sbC sv8 sm8 (nI nn8)), (sv8, byC cA sk8 sa8), (sb16, sbC sv16 sm16 (nI nn16)), (sv16, byC cA sk16 sa16)]) rfl ?_
  refine x_pop C dL_texts_139 rfl ?_
  refine x_aload C dL_texts_140 rfl ?_
  obtain ⟨r47, hc48, hf⟩ := bs_bind hf
  obtain ⟨q0, he⟩ := xr_plc (Z := Z) σ θ cA (F ++ [(sb0, sbC sv45 sm45 (nI (nn0 + stN u1))), (sv45, byC cA sk45 sa45), (sb8, sbC sv8 sm8 (nI nn8)), (sv8, byC cA sk8 sa8), (sb16, sbC sv16 sm16 (nI nn16)), (sv16, byC cA sk16 sa16)]) hq6
  refine x_callVi (y := yX10_isEmpty) (As := []) (rest := []) C (cX10_isEmpty_ok hq6 hc48) ml_L_164 wyX10_isEmpty he rfl dpX10_isEmpty ⟨Nat.le_of_ble_eq_true rfl, Nat.le_of_ble_eq_true rfl⟩ ⟨by show (cl + 1) + 0 ≤ 1877; omega, by show (sl + 1026) + (0) ≤ 291880; omega⟩ rfl (Nat.le_of_ble_eq_true rfl) dL_texts_142 (fun r' X' R' hp => ?_)
  obtain ⟨rfl, rfl, θ, rfl⟩ := hp
  refine x_widen (k := (cl + 1)) (n := (sl + 1026)) (by show (cl + 1) + 0 ≤ _; omega) (by show (sl + 1026) + (0) ≤ _; omega) ?_
  refine x_if_eq (tgt := 158) C dL_texts_145 (by decide) (fun h67 => ?_) (fun h67 => ?_)
  · replace hf := bs_pos h67 hf
    refine x_aload_n C dL_texts_158 rfl rfl ?_
    refine x_aload C dL_texts_159 rfl ?_
    obtain ⟨hg50, hf⟩ := bs_if hf
    refine xg_L_183 C hg50 dL_texts_161 ?_
    refine x_iconst (v := 0) C dL_texts_164 (by decide) ?_
    refine xl_img C hg50 (by decide) dL_texts_165 ?_
    obtain ⟨hg52, hf⟩ := bs_if hf
    obtain ⟨hg53, hf⟩ := bs_if hf
    refine x_topi (y := nI (bsIx (r47.2.2 6 q6 1))) (jd_nat hg52) ?_
    refine x_out [] [(sb0, sbC sv45 sm45 (nI (nn0 + stN u1))), (sv45, byC cA sk45 sa45)] [(sb8, sbC sv8 sm8 (nI nn8)), (sv8, byC cA sk8 sa8), (sb16, sbC sv16 sm16 (nI nn16)), (sv16, byC cA sk16 sa16)] rfl ?_
    refine x_callVr (y := yJ4_append_bf812) (As := [.int (nI (bsIx (r47.2.2 6 q6 1)))]) (rest := []) C (cJ4_append_bf812_ok (w := (bsIx (r47.2.2 6 q6 1))) hL45 hF45 hN45 hK45 (jd_natlt _) hg53) (bsG_in 1458 (by decide +kernel) rfl) wyJ4_append_bf812 ((jd_at _ [(sb0, sbC sv45 sm45 (nI (nn0 + stN u1))), (sv45, byC cA sk45 sa45)] 0).trans rfl) rfl dpJ4_append_bf812 ⟨Nat.le_of_ble_eq_true rfl, Nat.le_of_ble_eq_true rfl⟩ ⟨by show (cl + 1) + 1 ≤ 1877; omega, by show (sl + 1026) + 1026 ≤ 291880; omega⟩ rfl (Nat.le_of_ble_eq_true rfl) dL_texts_166 (fun r' X' R' hp => ?_)
    obtain ⟨eA, eX, sv51, sk51, sa51, sm51, eW, hL51, hF51, hN51, hK51⟩ := hp
    rw [eA, eX, eW]
    clear eA eX eW r' X' R'
    refine x_widen (k := (cl + 2)) (n := (sl + 2052)) (by show (cl + 1) + 1 ≤ _; omega) (by show (sl + 1026) + 1026 ≤ _; omega) ?_
    refine x_in [] [(sb0, sbC sv51 sm51 (nI ((nn0 + stN u1) + sb_dg (bsIx (r47.2.2 6 q6 1))))), (sv51, byC cA sk51 sa51)] [(sb8, sbC sv8 sm8 (nI nn8)), (sv8, byC cA sk8 sa8), (sb16, sbC sv16 sm16 (nI nn16)), (sv16, byC cA sk16 sa16)] (W := [(sb0, sbC sv51 sm51 (nI ((nn0 + stN u1) + sb_dg (bsIx (r47.2.2 6 q6 1))))), (sv51, byC cA sk51 sa51), (sb8, sbC sv8 sm8 (nI nn8)), (sv8, byC cA sk8 sa8), (sb16, sbC sv16 sm16 (nI nn16)), (sv16, byC cA sk16 sa16)]) rfl ?_
    refine x_bipush (v := 58) C dL_texts_169 (by decide) ?_
    obtain ⟨hg55, hf⟩ := bs_if hf
    refine x_out [] [(sb0, sbC sv51 sm51 (nI ((nn0 + stN u1) + sb_dg (bsIx (r47.2.2 6 q6 1))))), (sv51, byC cA sk51 sa51)] [(sb8, sbC sv8 sm8 (nI nn8)), (sv8, byC cA sk8 sa8), (sb16, sbC sv16 sm16 (nI nn16)), (sv16, byC cA sk16 sa16)] rfl ?_
    refine x_callVr (y := yJ4_append_cf468) (As := [.int (nI 58)]) (rest := []) C (cJ4_append_cf468_ok (ch := 58) hL51 hF51 hN51 hK51 hg55 (by decide)) (bsG_in 1459 (by decide +kernel) rfl) wyJ4_append_cf468 ((jd_at _ [(sb0, sbC sv51 sm51 (nI ((nn0 + stN u1) + sb_dg (bsIx (r47.2.2 6 q6 1))))), (sv51, byC cA sk51 sa51)] 0).trans rfl) rfl dpJ4_append_cf468 ⟨Nat.le_of_ble_eq_true rfl, Nat.le_of_ble_eq_true rfl⟩ ⟨by show (cl + 2) + 1 ≤ 1877; omega, by show (sl + 2052) + 1026 ≤ 291880; omega⟩ rfl (Nat.le_of_ble_eq_true rfl) dL_texts_171 (fun r' X' R' hp => ?_)
    obtain ⟨eA, eX, sv54, sk54, sa54, sm54, eW, hL54, hF54, hN54, hK54⟩ := hp
    rw [eA, eX, eW]
    clear eA eX eW r' X' R'
    refine x_widen (k := (cl + 3)) (n := (sl + 3078)) (by show (cl + 2) + 1 ≤ _; omega) (by show (sl + 2052) + 1026 ≤ _; omega) ?_
    refine x_in [] [(sb0, sbC sv54 sm54 (nI (((nn0 + stN u1) + sb_dg (bsIx (r47.2.2 6 q6 1))) + 1))), (sv54, byC cA sk54 sa54)] [(sb8, sbC sv8 sm8 (nI nn8)), (sv8, byC cA sk8 sa8), (sb16, sbC sv16 sm16 (nI nn16)), (sv16, byC cA sk16 sa16)] (W := [(sb0, sbC sv54 sm54 (nI (((nn0 + stN u1) + sb_dg (bsIx (r47.2.2 6 q6 1))) + 1))), (sv54, byC cA sk54 sa54), (sb8, sbC sv8 sm8 (nI nn8)), (sv8, byC cA sk8 sa8), (sb16, sbC sv16 sm16 (nI nn16)), (sv16, byC cA sk16 sa16)]) rfl ?_
    refine x_aload C dL_texts_174 rfl ?_
    refine xg_L_168 C hg50 dL_texts_176 ?_
    obtain ⟨hg57, hf⟩ := bs_if hf
    obtain ⟨hg58, hf⟩ := bs_if hf
    refine x_topi (y := nI (bsIx (r47.2.2 5 q6 2))) (jd_nat hg57) ?_
    refine x_out [] [(sb0, sbC sv54 sm54 (nI (((nn0 + stN u1) + sb_dg (bsIx (r47.2.2 6 q6 1))) + 1))), (sv54, byC cA sk54 sa54)] [(sb8, sbC sv8 sm8 (nI nn8)), (sv8, byC cA sk8 sa8), (sb16, sbC sv16 sm16 (nI nn16)), (sv16, byC cA sk16 sa16)] rfl ?_
    refine x_callVr (y := yJ4_append_bf812) (As := [.int (nI (bsIx (r47.2.2 5 q6 2)))]) (rest := []) C (cJ4_append_bf812_ok (w := (bsIx (r47.2.2 5 q6 2))) hL54 hF54 hN54 hK54 (jd_natlt _) hg58) (bsG_in 1458 (by decide +kernel) rfl) wyJ4_append_bf812 ((jd_at _ [(sb0, sbC sv54 sm54 (nI (((nn0 + stN u1) + sb_dg (bsIx (r47.2.2 6 q6 1))) + 1))), (sv54, byC cA sk54 sa54)] 0).trans rfl) rfl dpJ4_append_bf812 ⟨Nat.le_of_ble_eq_true rfl, Nat.le_of_ble_eq_true rfl⟩ ⟨by show (cl + 3) + 1 ≤ 1877; omega, by show (sl + 3078) + 1026 ≤ 291880; omega⟩ rfl (Nat.le_of_ble_eq_true rfl) dL_texts_179 (fun r' X' R' hp => ?_)
    obtain ⟨eA, eX, sv56, sk56, sa56, sm56, eW, hL56, hF56, hN56, hK56⟩ := hp
    rw [eA, eX, eW]
    clear eA eX eW r' X' R'
    refine x_widen (k := (cl + 4)) (n := (sl + 4104)) (by show (cl + 3) + 1 ≤ _; omega) (by show (sl + 3078) + 1026 ≤ _; omega) ?_
    refine x_in [] [(sb0, sbC sv56 sm56 (nI ((((nn0 + stN u1) + sb_dg (bsIx (r47.2.2 6 q6 1))) + 1) + sb_dg (bsIx (r47.2.2 5 q6 2))))), (sv56, byC cA sk56 sa56)] [(sb8, sbC sv8 sm8 (nI nn8)), (sv8, byC cA sk8 sa8), (sb16, sbC sv16 sm16 (nI nn16)), (sv16, byC cA sk16 sa16)] (W := [(sb0, sbC sv56 sm56 (nI ((((nn0 + stN u1) + sb_dg (bsIx (r47.2.2 6 q6 1))) + 1) + sb_dg (bsIx (r47.2.2 5 q6 2))))), (sv56, byC cA sk56 sa56), (sb8, sbC sv8 sm8 (nI nn8)), (sv8, byC cA sk8 sa8), (sb16, sbC sv16 sm16 (nI nn16)), (sv16, byC cA sk16 sa16)]) rfl ?_
    refine x_bipush (v := 47) C dL_texts_182 (by decide) ?_
    obtain ⟨hg60, hf⟩ := bs_if hf
    refine x_out [] [(sb0, sbC sv56 sm56 (nI ((((nn0 + stN u1) + sb_dg (bsIx (r47.2.2 6 q6 1))) + 1) + sb_dg (bsIx (r47.2.2 5 q6 2))))), (sv56, byC cA sk56 sa56)] [(sb8, sbC sv8 sm8 (nI nn8)), (sv8, byC cA sk8 sa8), (sb16, sbC sv16 sm16 (nI nn16)), (sv16, byC cA sk16 sa16)] rfl ?_
    refine x_callVr (y := yJ4_append_cf468) (As := [.int (nI 47)]) (rest := []) C (cJ4_append_cf468_ok (ch := 47) hL56 hF56 hN56 hK56 hg60 (by decide)) (bsG_in 1459 (by decide +kernel) rfl) wyJ4_append_cf468 ((jd_at _ [(sb0, sbC sv56 sm56 (nI ((((nn0 + stN u1) + sb_dg (bsIx (r47.2.2 6 q6 1))) + 1) + sb_dg (bsIx (r47.2.2 5 q6 2))))), (sv56, byC cA sk56 sa56)] 0).trans rfl) rfl dpJ4_append_cf468 ⟨Nat.le_of_ble_eq_true rfl, Nat.le_of_ble_eq_true rfl⟩ ⟨by show (cl + 4) + 1 ≤ 1877; omega, by show (sl + 4104) + 1026 ≤ 291880; omega⟩ rfl (Nat.le_of_ble_eq_true rfl) dL_texts_184 (fun r' X' R' hp => ?_)
    obtain ⟨eA, eX, sv59, sk59, sa59, sm59, eW, hL59, hF59, hN59, hK59⟩ := hp
    rw [eA, eX, eW]
    clear eA eX eW r' X' R'
    refine x_widen (k := (cl + 5)) (n := (sl + 5130)) (by show (cl + 4) + 1 ≤ _; omega) (by show (sl + 4104) + 1026 ≤ _; omega) ?_
    refine x_in [] [(sb0, sbC sv59 sm59 (nI (((((nn0 + stN u1) + sb_dg (bsIx (r47.2.2 6 q6 1))) + 1) + sb_dg (bsIx (r47.2.2 5 q6 2))) + 1))), (sv59, byC cA sk59 sa59)] [(sb8, sbC sv8 sm8 (nI nn8)), (sv8, byC cA sk8 sa8), (sb16, sbC sv16 sm16 (nI nn16)), (sv16, byC cA sk16 sa16)] (W := [(sb0, sbC sv59 sm59 (nI (((((nn0 + stN u1) + sb_dg (bsIx (r47.2.2 6 q6 1))) + 1) + sb_dg (bsIx (r47.2.2 5 q6 2))) + 1))), (sv59, byC cA sk59 sa59), (sb8, sbC sv8 sm8 (nI nn8)), (sv8, byC cA sk8 sa8), (sb16, sbC sv16 sm16 (nI nn16)), (sv16, byC cA sk16 sa16)]) rfl ?_
    refine x_aload C dL_texts_187 rfl ?_
    refine xg_L_129 C hg50 dL_texts_189 ?_
    obtain ⟨hg62, hf⟩ := bs_if hf
    obtain ⟨hg63, hf⟩ := bs_if hf
    refine x_topi (y := nI (bsIx (r47.2.2 5 q6 3))) (jd_nat hg62) ?_
    refine x_out [] [(sb0, sbC sv59 sm59 (nI (((((nn0 + stN u1) + sb_dg (bsIx (r47.2.2 6 q6 1))) + 1) + sb_dg (bsIx (r47.2.2 5 q6 2))) + 1))), (sv59, byC cA sk59 sa59)] [(sb8, sbC sv8 sm8 (nI nn8)), (sv8, byC cA sk8 sa8), (sb16, sbC sv16 sm16 (nI nn16)), (sv16, byC cA sk16 sa16)] rfl ?_
    refine x_callVr (y := yJ4_append_bf812) (As := [.int (nI (bsIx (r47.2.2 5 q6 3)))]) (rest := []) C (cJ4_append_bf812_ok (w := (bsIx (r47.2.2 5 q6 3))) hL59 hF59 hN59 hK59 (jd_natlt _) hg63) (bsG_in 1458 (by decide +kernel) rfl) wyJ4_append_bf812 ((jd_at _ [(sb0, sbC sv59 sm59 (nI (((((nn0 + stN u1) + sb_dg (bsIx (r47.2.2 6 q6 1))) + 1) + sb_dg (bsIx (r47.2.2 5 q6 2))) + 1))), (sv59, byC cA sk59 sa59)] 0).trans rfl) rfl dpJ4_append_bf812 ⟨Nat.le_of_ble_eq_true rfl, Nat.le_of_ble_eq_true rfl⟩ ⟨by show (cl + 5) + 1 ≤ 1877; omega, by show (sl + 5130) + 1026 ≤ 291880; omega⟩ rfl (Nat.le_of_ble_eq_true rfl) dL_texts_192 (fun r' X' R' hp => ?_)
    obtain ⟨eA, eX, sv61, sk61, sa61, sm61, eW, hL61, hF61, hN61, hK61⟩ := hp
    rw [eA, eX, eW]
    clear eA eX eW r' X' R'
    refine x_widen (k := (cl + 6)) (n := (sl + 6156)) (by show (cl + 5) + 1 ≤ _; omega) (by show (sl + 5130) + 1026 ≤ _; omega) ?_
    refine x_in [] [(sb0, sbC sv61 sm61 (nI ((((((nn0 + stN u1) + sb_dg (bsIx (r47.2.2 6 q6 1))) + 1) + sb_dg (bsIx (r47.2.2 5 q6 2))) + 1) + sb_dg (bsIx (r47.2.2 5 q6 3))))), (sv61, byC cA sk61 sa61)] [(sb8, sbC sv8 sm8 (nI nn8)), (sv8, byC cA sk8 sa8), (sb16, sbC sv16 sm16 (nI nn16)), (sv16, byC cA sk16 sa16)] (W := [(sb0, sbC sv61 sm61 (nI ((((((nn0 + stN u1) + sb_dg (bsIx (r47.2.2 6 q6 1))) + 1) + sb_dg (bsIx (r47.2.2 5 q6 2))) + 1) + sb_dg (bsIx (r47.2.2 5 q6 3))))), (sv61, byC cA sk61 sa61), (sb8, sbC sv8 sm8 (nI nn8)), (sv8, byC cA sk8 sa8), (sb16, sbC sv16 sm16 (nI nn16)), (sv16, byC cA sk16 sa16)]) rfl ?_
    refine x_aload C dL_texts_195 rfl ?_
    refine xg_L_123 C hg50 dL_texts_197 ?_
    refine x_if_eq (tgt := 209) C dL_texts_200 (by decide) (fun h64 => ?_) (fun h64 => ?_)
    · replace hf := bs_pos h64 hf
      refine x_ldcSw (tx := "") (t := 16) C (by decide +kernel) dL_texts_209 ?_
      refine x_sub [0, 1, 2, 3, 4, 5, 6] rfl ?_
      exact qL_texts_212 k102 C hst hk102 hn102 _ _ _ _ _ _ _ _ _ _ _ _ _ _ _ _ _ _ _ _ _ _ _ _ _ _ _ _ _ hL61 hF61 hN61 hK61 hL8 hF8 hN8 hK8 hL16 hF16 hN16 hK16 hg50 (by decide) (by omega) (by omega) hf
    · replace hf := bs_neg h64 hf
      refine x_ldcSw (tx := "!") (t := 19) C (by decide +kernel) dL_texts_203 ?_
      refine x_goto (tgt := 212) C dL_texts_206 (by decide) ?_
      refine x_sub [0, 1, 2, 3, 4, 5, 6] rfl ?_
      exact qL_texts_212 k102 C hst hk102 hn102 _ _ _ _ _ _ _ _ _ _ _ _ _ _ _ _ _ _ _ _ _ _ _ _ _ _ _ _ _ hL61 hF61 hN61 hK61 hL8 hF8 hN8 hK8 hL16 hF16 hN16 hK16 hg50 (by decide) (by omega) (by omega) hf
  · replace hf := bs_neg h67 hf
    refine x_aload_n C dL_texts_148 rfl rfl ?_
    refine x_bipush (v := 45) C dL_texts_149 (by decide) ?_
    obtain ⟨hg66, hf⟩ := bs_if hf
    refine x_out [] [(sb0, sbC sv45 sm45 (nI (nn0 + stN u1))), (sv45, byC cA sk45 sa45)] [(sb8, sbC sv8 sm8 (nI nn8)), (sv8, byC cA sk8 sa8), (sb16, sbC sv16 sm16 (nI nn16)), (sv16, byC cA sk16 sa16)] rfl ?_
    refine x_callVr (y := yJ4_append_cf468) (As := [.int (nI 45)]) (rest := []) C (cJ4_append_cf468_ok (ch := 45) hL45 hF45 hN45 hK45 hg66 (by decide)) (bsG_in 1459 (by decide +kernel) rfl) wyJ4_append_cf468 ((jd_at _ [(sb0, sbC sv45 sm45 (nI (nn0 + stN u1))), (sv45, byC cA sk45 sa45)] 0).trans rfl) rfl dpJ4_append_cf468 ⟨Nat.le_of_ble_eq_true rfl, Nat.le_of_ble_eq_true rfl⟩ ⟨by show (cl + 1) + 1 ≤ 1877; omega, by show (sl + 1026) + 1026 ≤ 291880; omega⟩ rfl (Nat.le_of_ble_eq_true rfl) dL_texts_151 (fun r' X' R' hp => ?_)
    obtain ⟨eA, eX, sv65, sk65, sa65, sm65, eW, hL65, hF65, hN65, hK65⟩ := hp
    rw [eA, eX, eW]
    clear eA eX eW r' X' R'
    refine x_widen (k := (cl + 2)) (n := (sl + 2052)) (by show (cl + 1) + 1 ≤ _; omega) (by show (sl + 1026) + 1026 ≤ _; omega) ?_
    refine x_in [] [(sb0, sbC sv65 sm65 (nI ((nn0 + stN u1) + 1))), (sv65, byC cA sk65 sa65)] [(sb8, sbC sv8 sm8 (nI nn8)), (sv8, byC cA sk8 sa8), (sb16, sbC sv16 sm16 (nI nn16)), (sv16, byC cA sk16 sa16)] (W := [(sb0, sbC sv65 sm65 (nI ((nn0 + stN u1) + 1))), (sv65, byC cA sk65 sa65), (sb8, sbC sv8 sm8 (nI nn8)), (sv8, byC cA sk8 sa8), (sb16, sbC sv16 sm16 (nI nn16)), (sv16, byC cA sk16 sa16)]) rfl ?_
    refine x_pop C dL_texts_154 rfl ?_
    refine x_goto (tgt := 402) C dL_texts_155 (by decide) ?_
    refine x_sub [0, 1, 2, 3, 4, 5] rfl ?_
    exact qL_texts_402 k102 C hst hk102 hn102 _ _ _ _ _ _ _ _ _ _ _ _ _ _ _ _ _ _ _ _ _ _ _ _ _ _ _ hL65 hF65 hN65 hK65 hL8 hF8 hN8 hK8 hL16 hF16 hN16 hK16 (by omega) (by omega) hf
