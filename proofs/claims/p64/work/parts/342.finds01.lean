set_option maxHeartbeats 4000000 in
set_option maxRecDepth 100000 in
theorem qL_finds_138 {p : Program} {l : Launch} {e : Env} {s : State} {m : MethodId} {args : Array Value} {below : List Frame} {meth : Method} {c : Code} {ρ : bsR} {sc L : Nat} {xs : Nat → Int32} {cA : Nat → ClassId} {dC : Nat → ClassId} {dI : Nat → Nat → Nat} {A : Nat → Prop} {Ts : List Cond} {σ : xA2} {F : va_W} (k16 : Int32 → Int32 → Int32 → Int32 → Int32 → Int32 → bsX → pY → Option (Int32 × bsX × pY)) (k47 : Int32 → Int32 → Int32 → Int32 → Int32 → Int32 → Nat → Int32 → Int32 → Int32 → Int32 → bsX → pY → Option (Int32 × bsX × pY)) {z : (Int32 × bsX × pY)} (C : xCx p m c cL_finds 13 s args Ts RL ρ sc L xs cA dC dI A meth (some .boolean)) (hst : l.stackTraces = false) {NC16 NS16 : Nat} (hk16 : ∀ (x2 : Int32) (x3 : Int32) (x4 : Int32) (x5 : Int32) (x6 : Int32) (x7 : Int32) (X : bsX) (Z : pY) (θ : xA2) (cl sl : Nat), cl + NC16 ≤ 104 → sl + NS16 ≤ 624 → k16 x2 x3 x4 x5 x6 x7 X Z = some z → xV p l e rmL_finds s m args below meth c cl sl (MQ below (xQi ρ cA dC dI A (fun r X' R' => r = z.1 ∧ X' = z.2.1 ∧ ∃ θ' : xA2, R' = lwWs σ θ' cA z.2.2 ++ F)) args s rmL_finds.cells rmL_finds.slots A) ρ cA dC dI A (lwWs σ θ cA Z ++ (F ++ [])) 13 16 [(0, .ref (ρ 13 0 0)), (1, .ref (σ 0 0)), (2, .int x2), (3, .int x3), (4, .int x4), (5, .int x5), (6, .int x6), (7, .int x7)] [] X) (hn16 : 8 ≤ NC16 ∧ 48 ≤ NS16) {NC47 NS47 : Nat} (hk47 : ∀ (x2 : Int32) (x3 : Int32) (x4 : Int32) (x5 : Int32) (x6 : Int32) (x7 : Int32) (q8 : Nat) (x9 : Int32) (x10 : Int32) (x11 : Int32) (x12 : Int32) (X : bsX) (Z : pY) (θ : xA2) (cl sl : Nat), q8 < ln Z → cl + NC47 ≤ 104 → sl + NS47 ≤ 624 → k47 x2 x3 x4 x5 x6 x7 q8 x9 x10 x11 x12 X Z = some z → xV p l e rmL_finds s m args below meth c cl sl (MQ below (xQi ρ cA dC dI A (fun r X' R' => r = z.1 ∧ X' = z.2.1 ∧ ∃ θ' : xA2, R' = lwWs σ θ' cA z.2.2 ++ F)) args s rmL_finds.cells rmL_finds.slots A) ρ cA dC dI A (lwWs σ θ cA Z ++ (F ++ [])) 13 47 [(0, .ref (ρ 13 0 0)), (1, .ref (σ 0 0)), (2, .int x2), (3, .int x3), (4, .int x4), (5, .int x5), (6, .int x6), (7, .int x7), (8, .ref (σ 5 q8)), (9, .int x9), (10, .int x10), (11, .int x11), (12, .int x12)] [] X) (hn47 : 12 + NC16 ≤ NC47 ∧ 72 + NS16 ≤ NS47)  : ∀ (x2 : Int32) (x3 : Int32) (x4 : Int32) (x5 : Int32) (x6 : Int32) (x7 : Int32) (q8 : Nat) (x9 : Int32) (x11 : Int32) (x12 : Int32) (y0 : Int32) (y1 : Int32) (X : bsX) (Z : pY) (θ : xA2) (cl sl : Nat), q8 < ln Z → cl + ((0 + NC47)) ≤ 104 → sl + ((0 + NS47)) ≤ 624 → hL_finds_138 k16 k47 x2 x3 x4 x5 x6 x7 q8 x9 x11 x12 y0 y1 X Z = some z → xV p l e rmL_finds s m args below meth c cl sl (MQ below (xQi ρ cA dC dI A (fun r X' R' => r = z.1 ∧ X' = z.2.1 ∧ ∃ θ' : xA2, R' = lwWs σ θ' cA z.2.2 ++ F)) args s rmL_finds.cells rmL_finds.slots A) ρ cA dC dI A (lwWs σ θ cA Z ++ (F ++ [])) 13 138 [(0, .ref (ρ 13 0 0)), (1, .ref (σ 0 0)), (2, .int x2), (3, .int x3), (4, .int x4), (5, .int x5), (6, .int x6), (7, .int x7), (8, .ref (σ 5 q8)), (9, .int x9), (11, .int x11), (12, .int x12)] [.int y1, .int y0] X := by
  intro x2 x3 x4 x5 x6 x7 q8 x9 x11 x12 y0 y1 X Z θ cl sl hq8 hcl hsl hf
  rw [hL_finds_138] at hf
  refine x_iadd C dL_finds_138 ?_
  refine x_istore (lv' := [(10, .int (y0 + y1)), (0, .ref (ρ 13 0 0)), (1, .ref (σ 0 0)), (2, .int x2), (3, .int x3), (4, .int x4), (5, .int x5), (6, .int x6), (7, .int x7), (8, .ref (σ 5 q8)), (9, .int x9), (11, .int x11), (12, .int x12)]) C dL_finds_139 (by decide) rfl ?_
  refine x_iinc (k0 := 12) (v := (x12 + (1 : Int32))) (lv' := [(12, .int (x12 + (1 : Int32))), (10, .int (y0 + y1)), (0, .ref (ρ 13 0 0)), (1, .ref (σ 0 0)), (2, .int x2), (3, .int x3), (4, .int x4), (5, .int x5), (6, .int x6), (7, .int x7), (8, .ref (σ 5 q8)), (9, .int x9), (11, .int x11)]) C dL_finds_141 rfl rfl (by decide) rfl ?_
  refine x_goto (tgt := 47) C dL_finds_144 (by decide) ?_
  refine x_sub [2, 3, 4, 5, 6, 7, 8, 9, 10, 11, 1, 12, 0] rfl ?_
  exact hk47 _ _ _ _ _ _ _ _ _ _ _ _ _ _  _ _ hq8 (by omega) (by omega) hf
set_option maxHeartbeats 4000000 in
set_option maxRecDepth 100000 in
theorem qL_finds_137 {p : Program} {l : Launch} {e : Env} {s : State} {m : MethodId} {args : Array Value} {below : List Frame} {meth : Method} {c : Code} {ρ : bsR} {sc L : Nat} {xs : Nat → Int32} {cA : Nat → ClassId} {dC : Nat → ClassId} {dI : Nat → Nat → Nat} {A : Nat → Prop} {Ts : List Cond} {σ : xA2} {F : va_W} (k16 : Int32 → Int32 → Int32 → Int32 → Int32 → Int32 → bsX → pY → Option (Int32 × bsX × pY)) (k47 : Int32 → Int32 → Int32 → Int32 → Int32 → Int32 → Nat → Int32 → Int32 → Int32 → Int32 → bsX → pY → Option (Int32 × bsX × pY)) {z : (Int32 × bsX × pY)} (C : xCx p m c cL_finds 13 s args Ts RL ρ sc L xs cA dC dI A meth (some .boolean)) (hst : l.stackTraces = false) {NC16 NS16 : Nat} (hk16 : ∀ (x2 : Int32) (x3 : Int32) (x4 : Int32) (x5 : Int32) (x6 : Int32) (x7 : Int32) (X : bsX) (Z : pY) (θ : xA2) (cl sl : Nat), cl + NC16 ≤ 104 → sl + NS16 ≤ 624 → k16 x2 x3 x4 x5 x6 x7 X Z = some z → xV p l e rmL_finds s m args below meth c cl sl (MQ below (xQi ρ cA dC dI A (fun r X' R' => r = z.1 ∧ X' = z.2.1 ∧ ∃ θ' : xA2, R' = lwWs σ θ' cA z.2.2 ++ F)) args s rmL_finds.cells rmL_finds.slots A) ρ cA dC dI A (lwWs σ θ cA Z ++ (F ++ [])) 13 16 [(0, .ref (ρ 13 0 0)), (1, .ref (σ 0 0)), (2, .int x2), (3, .int x3), (4, .int x4), (5, .int x5), (6, .int x6), (7, .int x7)] [] X) (hn16 : 8 ≤ NC16 ∧ 48 ≤ NS16) {NC47 NS47 : Nat} (hk47 : ∀ (x2 : Int32) (x3 : Int32) (x4 : Int32) (x5 : Int32) (x6 : Int32) (x7 : Int32) (q8 : Nat) (x9 : Int32) (x10 : Int32) (x11 : Int32) (x12 : Int32) (X : bsX) (Z : pY) (θ : xA2) (cl sl : Nat), q8 < ln Z → cl + NC47 ≤ 104 → sl + NS47 ≤ 624 → k47 x2 x3 x4 x5 x6 x7 q8 x9 x10 x11 x12 X Z = some z → xV p l e rmL_finds s m args below meth c cl sl (MQ below (xQi ρ cA dC dI A (fun r X' R' => r = z.1 ∧ X' = z.2.1 ∧ ∃ θ' : xA2, R' = lwWs σ θ' cA z.2.2 ++ F)) args s rmL_finds.cells rmL_finds.slots A) ρ cA dC dI A (lwWs σ θ cA Z ++ (F ++ [])) 13 47 [(0, .ref (ρ 13 0 0)), (1, .ref (σ 0 0)), (2, .int x2), (3, .int x3), (4, .int x4), (5, .int x5), (6, .int x6), (7, .int x7), (8, .ref (σ 5 q8)), (9, .int x9), (10, .int x10), (11, .int x11), (12, .int x12)] [] X) (hn47 : 12 + NC16 ≤ NC47 ∧ 72 + NS16 ≤ NS47)  : ∀ (x2 : Int32) (x3 : Int32) (x4 : Int32) (x5 : Int32) (x6 : Int32) (x7 : Int32) (q8 : Nat) (x9 : Int32) (x11 : Int32) (x12 : Int32) (y0 : Int32) (X : bsX) (Z : pY) (θ : xA2) (cl sl : Nat), q8 < ln Z → cl + ((0 + NC47)) ≤ 104 → sl + ((0 + NS47)) ≤ 624 → hL_finds_137 k16 k47 x2 x3 x4 x5 x6 x7 q8 x9 x11 x12 y0 X Z = some z → xV p l e rmL_finds s m args below meth c cl sl (MQ below (xQi ρ cA dC dI A (fun r X' R' => r = z.1 ∧ X' = z.2.1 ∧ ∃ θ' : xA2, R' = lwWs σ θ' cA z.2.2 ++ F)) args s rmL_finds.cells rmL_finds.slots A) ρ cA dC dI A (lwWs σ θ cA Z ++ (F ++ [])) 13 137 [(0, .ref (ρ 13 0 0)), (1, .ref (σ 0 0)), (2, .int x2), (3, .int x3), (4, .int x4), (5, .int x5), (6, .int x6), (7, .int x7), (8, .ref (σ 5 q8)), (9, .int x9), (11, .int x11), (12, .int x12)] [.int y0] X := by
  intro x2 x3 x4 x5 x6 x7 q8 x9 x11 x12 y0 X Z θ cl sl hq8 hcl hsl hf
  rw [hL_finds_137] at hf
  refine x_iconst (v := 0) C dL_finds_137 (by decide) ?_
  refine x_sub [0, 1, 2, 3, 4, 5, 6, 7, 8, 9, 10, 11] rfl ?_
  exact qL_finds_138 k16 k47 C hst hk16 hn16 hk47 hn47 _ _ _ _ _ _ _ _ _ _ _ _ _ _ _  _ _ hq8 (by omega) (by omega) hf
set_option maxHeartbeats 4000000 in
set_option maxRecDepth 100000 in
theorem qL_finds_88 {p : Program} {l : Launch} {e : Env} {s : State} {m : MethodId} {args : Array Value} {below : List Frame} {meth : Method} {c : Code} {ρ : bsR} {sc L : Nat} {xs : Nat → Int32} {cA : Nat → ClassId} {dC : Nat → ClassId} {dI : Nat → Nat → Nat} {A : Nat → Prop} {Ts : List Cond} {σ : xA2} {F : va_W} (k16 : Int32 → Int32 → Int32 → Int32 → Int32 → Int32 → bsX → pY → Option (Int32 × bsX × pY)) (k47 : Int32 → Int32 → Int32 → Int32 → Int32 → Int32 → Nat → Int32 → Int32 → Int32 → Int32 → bsX → pY → Option (Int32 × bsX × pY)) {z : (Int32 × bsX × pY)} (C : xCx p m c cL_finds 13 s args Ts RL ρ sc L xs cA dC dI A meth (some .boolean)) (hst : l.stackTraces = false) {NC16 NS16 : Nat} (hk16 : ∀ (x2 : Int32) (x3 : Int32) (x4 : Int32) (x5 : Int32) (x6 : Int32) (x7 : Int32) (X : bsX) (Z : pY) (θ : xA2) (cl sl : Nat), cl + NC16 ≤ 104 → sl + NS16 ≤ 624 → k16 x2 x3 x4 x5 x6 x7 X Z = some z → xV p l e rmL_finds s m args below meth c cl sl (MQ below (xQi ρ cA dC dI A (fun r X' R' => r = z.1 ∧ X' = z.2.1 ∧ ∃ θ' : xA2, R' = lwWs σ θ' cA z.2.2 ++ F)) args s rmL_finds.cells rmL_finds.slots A) ρ cA dC dI A (lwWs σ θ cA Z ++ (F ++ [])) 13 16 [(0, .ref (ρ 13 0 0)), (1, .ref (σ 0 0)), (2, .int x2), (3, .int x3), (4, .int x4), (5, .int x5), (6, .int x6), (7, .int x7)] [] X) (hn16 : 8 ≤ NC16 ∧ 48 ≤ NS16) {NC47 NS47 : Nat} (hk47 : ∀ (x2 : Int32) (x3 : Int32) (x4 : Int32) (x5 : Int32) (x6 : Int32) (x7 : Int32) (q8 : Nat) (x9 : Int32) (x10 : Int32) (x11 : Int32) (x12 : Int32) (X : bsX) (Z : pY) (θ : xA2) (cl sl : Nat), q8 < ln Z → cl + NC47 ≤ 104 → sl + NS47 ≤ 624 → k47 x2 x3 x4 x5 x6 x7 q8 x9 x10 x11 x12 X Z = some z → xV p l e rmL_finds s m args below meth c cl sl (MQ below (xQi ρ cA dC dI A (fun r X' R' => r = z.1 ∧ X' = z.2.1 ∧ ∃ θ' : xA2, R' = lwWs σ θ' cA z.2.2 ++ F)) args s rmL_finds.cells rmL_finds.slots A) ρ cA dC dI A (lwWs σ θ cA Z ++ (F ++ [])) 13 47 [(0, .ref (ρ 13 0 0)), (1, .ref (σ 0 0)), (2, .int x2), (3, .int x3), (4, .int x4), (5, .int x5), (6, .int x6), (7, .int x7), (8, .ref (σ 5 q8)), (9, .int x9), (10, .int x10), (11, .int x11), (12, .int x12)] [] X) (hn47 : 12 + NC16 ≤ NC47 ∧ 72 + NS16 ≤ NS47)  : ∀ (x2 : Int32) (x3 : Int32) (x4 : Int32) (x5 : Int32) (x6 : Int32) (x7 : Int32) (q8 : Nat) (x10 : Int32) (x11 : Int32) (x12 : Int32) (y0 : Int32) (y1 : Int32) (X : bsX) (Z : pY) (θ : xA2) (cl sl : Nat), q8 < ln Z → cl + ((0 + NC47)) ≤ 104 → sl + ((0 + NS47)) ≤ 624 → hL_finds_88 k16 k47 x2 x3 x4 x5 x6 x7 q8 x10 x11 x12 y0 y1 X Z = some z → xV p l e rmL_finds s m args below meth c cl sl (MQ below (xQi ρ cA dC dI A (fun r X' R' => r = z.1 ∧ X' = z.2.1 ∧ ∃ θ' : xA2, R' = lwWs σ θ' cA z.2.2 ++ F)) args s rmL_finds.cells rmL_finds.slots A) ρ cA dC dI A (lwWs σ θ cA Z ++ (F ++ [])) 13 88 [(0, .ref (ρ 13 0 0)), (1, .ref (σ 0 0)), (2, .int x2), (3, .int x3), (4, .int x4), (5, .int x5), (6, .int x6), (7, .int x7), (8, .ref (σ 5 q8)), (10, .int x10), (11, .int x11), (12, .int x12)] [.int y1, .int y0] X := by
  intro x2 x3 x4 x5 x6 x7 q8 x10 x11 x12 y0 y1 X Z θ cl sl hq8 hcl hsl hf
  rw [hL_finds_88] at hf
  refine x_iadd C dL_finds_88 ?_
  refine x_istore (lv' := [(9, .int (y0 + y1)), (0, .ref (ρ 13 0 0)), (1, .ref (σ 0 0)), (2, .int x2), (3, .int x3), (4, .int x4), (5, .int x5), (6, .int x6), (7, .int x7), (8, .ref (σ 5 q8)), (10, .int x10), (11, .int x11), (12, .int x12)]) C dL_finds_89 (by decide) rfl ?_
  refine x_iload C dL_finds_91 rfl ?_
  refine x_iload C dL_finds_93 rfl ?_
  refine x_iload C dL_finds_95 rfl ?_
  refine x_icmp_eq (tgt := 137) C dL_finds_97 (by decide) (fun h141 => ?_) (fun h141 => ?_)
  · replace hf := bs_pos h141 hf
    refine x_sub [1, 2, 3, 4, 5, 6, 7, 8, 9, 0, 11, 12] rfl ?_
    exact qL_finds_137 k16 k47 C hst hk16 hn16 hk47 hn47 _ _ _ _ _ _ _ _ _ _ _ _ _ _  _ _ hq8 (by omega) (by omega) hf
  · replace hf := bs_neg h141 hf
    refine x_aload C dL_finds_100 rfl ?_
    obtain ⟨r133, hc134, hf⟩ := bs_bind hf
    obtain ⟨q0, he⟩ := xr_plc (Z := Z) σ θ cA (F ++ []) hq8
    refine x_callVi (y := yX10_isEmpty) (As := []) (rest := [.int x10]) C (cX10_isEmpty_ok hq8 hc134) ml_L_164 wyX10_isEmpty he rfl dpX10_isEmpty ⟨Nat.le_of_ble_eq_true rfl, Nat.le_of_ble_eq_true rfl⟩ ⟨by show (cl) + 0 ≤ 104; omega, by show (sl) + (0) ≤ 624; omega⟩ rfl (Nat.le_of_ble_eq_true rfl) dL_finds_102 (fun r' X' R' hp => ?_)
    obtain ⟨rfl, rfl, θ, rfl⟩ := hp
    refine x_widen (k := (cl)) (n := (sl)) (by show (cl) + 0 ≤ _; omega) (by show (sl) + (0) ≤ _; omega) ?_
    refine x_if_ne (tgt := 137) C dL_finds_105 (by decide) (fun h140 => ?_) (fun h140 => ?_)
    · replace hf := bs_neg h140 hf
      obtain ⟨hg136, hf⟩ := bs_if hf
      refine x_sub [1, 2, 3, 4, 5, 6, 7, 8, 9, 0, 11, 12] rfl ?_
      exact qL_finds_137 k16 k47 C hst hk16 hn16 hk47 hn47 _ _ _ _ _ _ _ _ _ _ _ _ _ _  _ _ hg136 (by omega) (by omega) hf
    · replace hf := bs_pos h140 hf
      refine x_aload_n C dL_finds_108 rfl rfl ?_
      refine xg_L_114 C dL_finds_109 ?_
      refine x_iload C dL_finds_112 rfl ?_
      obtain ⟨hg137, hf⟩ := bs_if hf
      refine xa_plc C hg137 dL_finds_114 ?_
      refine xg_L_183 C (bsIx_lt hg137) dL_finds_115 ?_
      refine x_iconst (v := 0) C dL_finds_118 (by decide) ?_
      refine xl_img C (bsIx_lt hg137) (by decide) dL_finds_119 ?_
      refine x_aload C dL_finds_120 rfl ?_
      obtain ⟨hg138, hf⟩ := bs_if hf
      refine xg_L_183 C hg138 dL_finds_122 ?_
      refine x_iconst (v := 0) C dL_finds_125 (by decide) ?_
      refine xl_img C hg138 (by decide) dL_finds_126 ?_
      refine x_icmp_ne (tgt := 137) C dL_finds_127 (by decide) (fun h139 => ?_) (fun h139 => ?_)
      · replace hf := bs_neg h139 hf
        refine x_sub [1, 2, 3, 4, 5, 6, 7, 8, 9, 0, 11, 12] rfl ?_
        exact qL_finds_137 k16 k47 C hst hk16 hn16 hk47 hn47 _ _ _ _ _ _ _ _ _ _ _ _ _ _  _ _ hg138 (by omega) (by omega) hf
      · replace hf := bs_pos h139 hf
        refine x_iconst (v := 1) C dL_finds_130 (by decide) ?_
        refine x_iload C dL_finds_131 rfl ?_
        refine x_ishl C dL_finds_133 ?_
        refine x_goto (tgt := 138) C dL_finds_134 (by decide) ?_
        refine x_sub [1, 2, 3, 4, 5, 6, 7, 8, 9, 0, 11, 12] rfl ?_
        exact qL_finds_138 k16 k47 C hst hk16 hn16 hk47 hn47 _ _ _ _ _ _ _ _ _ _ _ _ _ _ _  _ _ hg138 (by omega) (by omega) hf
