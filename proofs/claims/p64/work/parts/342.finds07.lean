set_option maxHeartbeats 4000000 in
set_option maxRecDepth 100000 in
theorem qL_finds_236 {p : Program} {l : Launch} {e : Env} {s : State} {m : MethodId} {args : Array Value} {below : List Frame} {meth : Method} {c : Code} {ρ : bsR} {sc L : Nat} {xs : Nat → Int32} {cA : Nat → ClassId} {dC : Nat → ClassId} {dI : Nat → Nat → Nat} {A : Nat → Prop} {Ts : List Cond} {σ : xA2} {F : va_W} (k16 : Int32 → Int32 → Int32 → Int32 → Int32 → Int32 → bsX → pY → Option (Int32 × bsX × pY)) {z : (Int32 × bsX × pY)} (C : xCx p m c cL_finds 13 s args Ts RL ρ sc L xs cA dC dI A meth (some .boolean)) (hst : l.stackTraces = false) {NC16 NS16 : Nat} (hk16 : ∀ (x2 : Int32) (x3 : Int32) (x4 : Int32) (x5 : Int32) (x6 : Int32) (x7 : Int32) (X : bsX) (Z : pY) (θ : xA2) (cl sl : Nat), cl + NC16 ≤ 104 → sl + NS16 ≤ 624 → k16 x2 x3 x4 x5 x6 x7 X Z = some z → xV p l e rmL_finds s m args below meth c cl sl (MQ below (xQi ρ cA dC dI A (fun r X' R' => r = z.1 ∧ X' = z.2.1 ∧ ∃ θ' : xA2, R' = lwWs σ θ' cA z.2.2 ++ F)) args s rmL_finds.cells rmL_finds.slots A) ρ cA dC dI A (lwWs σ θ cA Z ++ (F ++ [])) 13 16 [(0, .ref (ρ 13 0 0)), (1, .ref (σ 0 0)), (2, .int x2), (3, .int x3), (4, .int x4), (5, .int x5), (6, .int x6), (7, .int x7)] [] X) (hn16 : 8 ≤ NC16 ∧ 48 ≤ NS16)  : ∀ (x2 : Int32) (x3 : Int32) (x4 : Int32) (x5 : Int32) (x6 : Int32) (x7 : Int32) (q8 : Nat) (x9 : Int32) (x10 : Int32) (x11 : Int32) (X : bsX) (Z : pY) (θ : xA2) (cl sl : Nat), q8 < ln Z → cl + ((12 + NC16)) ≤ 104 → sl + ((72 + NS16)) ≤ 624 → hL_finds_236 k16 x2 x3 x4 x5 x6 x7 q8 x9 x10 x11 X Z = some z → xV p l e rmL_finds s m args below meth c cl sl (MQ below (xQi ρ cA dC dI A (fun r X' R' => r = z.1 ∧ X' = z.2.1 ∧ ∃ θ' : xA2, R' = lwWs σ θ' cA z.2.2 ++ F)) args s rmL_finds.cells rmL_finds.slots A) ρ cA dC dI A (lwWs σ θ cA Z ++ (F ++ [])) 13 236 [(0, .ref (ρ 13 0 0)), (1, .ref (σ 0 0)), (2, .int x2), (3, .int x3), (4, .int x4), (5, .int x5), (6, .int x6), (7, .int x7), (8, .ref (σ 5 q8)), (9, .int x9), (10, .int x10), (11, .int x11)] [] X := by
  intro x2 x3 x4 x5 x6 x7 q8 x9 x10 x11 X Z θ cl sl hq8 hcl hsl hf
  rw [hL_finds_236] at hf
  refine x_aload C dL_finds_236 rfl ?_
  refine xg_L_123 C hq8 dL_finds_238 ?_
  refine x_if_ne (tgt := 258) C dL_finds_241 (by decide) (fun h152 => ?_) (fun h152 => ?_)
  · replace hf := bs_neg h152 hf
    refine x_sub [0, 1, 2, 3, 4, 5, 6, 7, 8, 9, 10, 11] rfl ?_
    exact qL_finds_258 k16 C hst hk16 hn16 _ _ _ _ _ _ _ _ _ _ _ _ _  _ _ hq8 (by omega) (by omega) hf
  · replace hf := bs_pos h152 hf
    refine x_aload C dL_finds_244 rfl ?_
    refine xg_L_183 C hq8 dL_finds_246 ?_
    refine x_iconst (v := 1) C dL_finds_249 (by decide) ?_
    refine xl_img C hq8 (by decide) dL_finds_250 ?_
    refine x_aload_n C dL_finds_251 rfl rfl ?_
    refine xg_L_136 C dL_finds_252 ?_
    refine x_icmp_gt (tgt := 262) C dL_finds_255 (by decide) (fun h151 => ?_) (fun h151 => ?_)
    · replace hf := bs_pos h151 hf
      refine x_sub [0, 1, 2, 3, 4, 5, 6, 7, 8, 9, 10, 11] rfl ?_
      exact qL_finds_262 k16 C hst hk16 hn16 _ _ _ _ _ _ _ _ _ _ _ _ _  _ _ hq8 (by omega) (by omega) hf
    · replace hf := bs_neg h151 hf
      refine x_sub [0, 1, 2, 3, 4, 5, 6, 7, 8, 9, 10, 11] rfl ?_
      exact qL_finds_258 k16 C hst hk16 hn16 _ _ _ _ _ _ _ _ _ _ _ _ _  _ _ hq8 (by omega) (by omega) hf
set_option maxHeartbeats 4000000 in
set_option maxRecDepth 100000 in
theorem qL_finds_161 {p : Program} {l : Launch} {e : Env} {s : State} {m : MethodId} {args : Array Value} {below : List Frame} {meth : Method} {c : Code} {ρ : bsR} {sc L : Nat} {xs : Nat → Int32} {cA : Nat → ClassId} {dC : Nat → ClassId} {dI : Nat → Nat → Nat} {A : Nat → Prop} {Ts : List Cond} {σ : xA2} {F : va_W} (k16 : Int32 → Int32 → Int32 → Int32 → Int32 → Int32 → bsX → pY → Option (Int32 × bsX × pY)) {z : (Int32 × bsX × pY)} (C : xCx p m c cL_finds 13 s args Ts RL ρ sc L xs cA dC dI A meth (some .boolean)) (hst : l.stackTraces = false) {NC16 NS16 : Nat} (hk16 : ∀ (x2 : Int32) (x3 : Int32) (x4 : Int32) (x5 : Int32) (x6 : Int32) (x7 : Int32) (X : bsX) (Z : pY) (θ : xA2) (cl sl : Nat), cl + NC16 ≤ 104 → sl + NS16 ≤ 624 → k16 x2 x3 x4 x5 x6 x7 X Z = some z → xV p l e rmL_finds s m args below meth c cl sl (MQ below (xQi ρ cA dC dI A (fun r X' R' => r = z.1 ∧ X' = z.2.1 ∧ ∃ θ' : xA2, R' = lwWs σ θ' cA z.2.2 ++ F)) args s rmL_finds.cells rmL_finds.slots A) ρ cA dC dI A (lwWs σ θ cA Z ++ (F ++ [])) 13 16 [(0, .ref (ρ 13 0 0)), (1, .ref (σ 0 0)), (2, .int x2), (3, .int x3), (4, .int x4), (5, .int x5), (6, .int x6), (7, .int x7)] [] X) (hn16 : 8 ≤ NC16 ∧ 48 ≤ NS16)  : ∀ (n : Nat), ∀ (x2 : Int32) (x3 : Int32) (x4 : Int32) (x5 : Int32) (x6 : Int32) (x7 : Int32) (q8 : Nat) (x9 : Int32) (x10 : Int32) (x11 : Int32) (x12 : Int32) (X : bsX) (Z : pY) (θ : xA2) (cl sl : Nat), q8 < ln Z → cl + (n * 0 + (12 + NC16)) ≤ 104 → sl + (n * 0 + (72 + NS16)) ≤ 624 → hL_finds_161 k16 n x2 x3 x4 x5 x6 x7 q8 x9 x10 x11 x12 X Z = some z → xV p l e rmL_finds s m args below meth c cl sl (MQ below (xQi ρ cA dC dI A (fun r X' R' => r = z.1 ∧ X' = z.2.1 ∧ ∃ θ' : xA2, R' = lwWs σ θ' cA z.2.2 ++ F)) args s rmL_finds.cells rmL_finds.slots A) ρ cA dC dI A (lwWs σ θ cA Z ++ (F ++ [])) 13 161 [(0, .ref (ρ 13 0 0)), (1, .ref (σ 0 0)), (2, .int x2), (3, .int x3), (4, .int x4), (5, .int x5), (6, .int x6), (7, .int x7), (8, .ref (σ 5 q8)), (9, .int x9), (10, .int x10), (11, .int x11), (12, .int x12)] [] X := by
  intro n
  induction n with
  | zero => intro x2 x3 x4 x5 x6 x7 q8 x9 x10 x11 x12 X Z θ cl sl hq8 hcl hsl hf; exact (nomatch hf)
  | succ n ih =>
    intro x2 x3 x4 x5 x6 x7 q8 x9 x10 x11 x12 X Z θ cl sl hq8 hcl hsl hf
    rw [hL_finds_161] at hf
    refine x_iload C dL_finds_161 rfl ?_
    refine x_aload_n C dL_finds_163 rfl rfl ?_
    refine xg_L_194 C dL_finds_164 ?_
    refine xn_bts C dL_finds_167 ?_
    refine x_icmp_ge (tgt := 201) C dL_finds_168 (by decide) (fun h70 => ?_) (fun h70 => ?_)
    · replace hf := bs_pos h70 hf
      refine x_aload C dL_finds_201 rfl ?_
      obtain ⟨r60, hc61, hf⟩ := bs_bind hf
      obtain ⟨q0, he⟩ := xr_plc (Z := Z) σ θ cA (F ++ []) hq8
      refine x_callVi (y := yX10_isEmpty) (As := []) (rest := []) C (cX10_isEmpty_ok hq8 hc61) ml_L_164 wyX10_isEmpty he rfl dpX10_isEmpty ⟨Nat.le_of_ble_eq_true rfl, Nat.le_of_ble_eq_true rfl⟩ ⟨by show (cl) + 0 ≤ 104; omega, by show (sl) + (0) ≤ 624; omega⟩ rfl (Nat.le_of_ble_eq_true rfl) dL_finds_203 (fun r' X' R' hp => ?_)
      obtain ⟨rfl, rfl, θ, rfl⟩ := hp
      refine x_widen (k := (cl)) (n := (sl)) (by show (cl) + 0 ≤ _; omega) (by show (sl) + (0) ≤ _; omega) ?_
      refine x_if_ne (tgt := 262) C dL_finds_206 (by decide) (fun h67 => ?_) (fun h67 => ?_)
      · replace hf := bs_neg h67 hf
        obtain ⟨hg63, hf⟩ := bs_if hf
        refine x_sub [0, 1, 2, 3, 4, 5, 6, 7, 8, 9, 10, 11] rfl ?_
        exact qL_finds_262 k16 C hst hk16 hn16 _ _ _ _ _ _ _ _ _ _ _ _ _  _ _ hg63 (by omega) (by omega) hf
      · replace hf := bs_pos h67 hf
        refine x_aload C dL_finds_209 rfl ?_
        obtain ⟨hg64, hf⟩ := bs_if hf
        refine xg_L_183 C hg64 dL_finds_211 ?_
        refine x_iconst (v := 2) C dL_finds_214 (by decide) ?_
        refine xl_img C hg64 (by decide) dL_finds_215 ?_
        refine x_if_eq (tgt := 236) C dL_finds_216 (by decide) (fun h66 => ?_) (fun h66 => ?_)
        · replace hf := bs_pos h66 hf
          refine x_sub [0, 1, 2, 3, 4, 5, 6, 7, 8, 9, 10, 11] rfl ?_
          exact qL_finds_236 k16 C hst hk16 hn16 _ _ _ _ _ _ _ _ _ _ _ _ _  _ _ hg64 (by omega) (by omega) hf
        · replace hf := bs_neg h66 hf
          refine x_aload C dL_finds_219 rfl ?_
          refine xg_L_183 C hg64 dL_finds_221 ?_
          refine x_iconst (v := 2) C dL_finds_224 (by decide) ?_
          refine xl_img C hg64 (by decide) dL_finds_225 ?_
          refine x_aload C dL_finds_226 rfl ?_
          refine xg_L_183 C hg64 dL_finds_228 ?_
          refine x_iconst (v := 1) C dL_finds_231 (by decide) ?_
          refine xl_img C hg64 (by decide) dL_finds_232 ?_
          refine x_icmp_le (tgt := 262) C dL_finds_233 (by decide) (fun h65 => ?_) (fun h65 => ?_)
          · replace hf := bs_pos h65 hf
            refine x_sub [0, 1, 2, 3, 4, 5, 6, 7, 8, 9, 10, 11] rfl ?_
            exact qL_finds_262 k16 C hst hk16 hn16 _ _ _ _ _ _ _ _ _ _ _ _ _  _ _ hg64 (by omega) (by omega) hf
          · replace hf := bs_neg h65 hf
            refine x_sub [0, 1, 2, 3, 4, 5, 6, 7, 8, 9, 10, 11] rfl ?_
            exact qL_finds_236 k16 C hst hk16 hn16 _ _ _ _ _ _ _ _ _ _ _ _ _  _ _ hg64 (by omega) (by omega) hf
    · replace hf := bs_neg h70 hf
      refine x_iload C dL_finds_171 rfl ?_
      refine x_aload_n C dL_finds_173 rfl rfl ?_
      refine xg_L_194 C dL_finds_174 ?_
      refine x_iload C dL_finds_177 rfl ?_
      obtain ⟨hg68, hf⟩ := bs_if hf
      refine xa_bts C hg68 dL_finds_179 ?_
      refine x_iconst (v := 3) C dL_finds_180 (by decide) ?_
      refine xl_row C (bsIx_lt hg68) (by decide) dL_finds_181 ?_
      refine x_iload C dL_finds_182 rfl ?_
      refine x_icmp_ne (tgt := 191) C dL_finds_184 (by decide) (fun h69 => ?_) (fun h69 => ?_)
      · replace hf := bs_neg h69 hf
        refine x_iconst (v := 0) C dL_finds_191 (by decide) ?_
        refine x_sub [0, 1, 2, 3, 4, 5, 6, 7, 8, 9, 10, 12] rfl ?_
        exact qL_finds_192 k16 (hL_finds_161  k16 n) C hst hk16 hn16 ih ⟨by omega, by omega⟩ _ _ _ _ _ _ _ _ _ _ _ _ _ _ _  _ _ hq8 (by omega) (by omega) hf
      · replace hf := bs_pos h69 hf
        refine x_iconst (v := 1) C dL_finds_187 (by decide) ?_
        refine x_goto (tgt := 192) C dL_finds_188 (by decide) ?_
        refine x_sub [0, 1, 2, 3, 4, 5, 6, 7, 8, 9, 10, 12] rfl ?_
        exact qL_finds_192 k16 (hL_finds_161  k16 n) C hst hk16 hn16 ih ⟨by omega, by omega⟩ _ _ _ _ _ _ _ _ _ _ _ _ _ _ _  _ _ hq8 (by omega) (by omega) hf
set_option maxHeartbeats 4000000 in
set_option maxRecDepth 100000 in
theorem qL_finds_47 {p : Program} {l : Launch} {e : Env} {s : State} {m : MethodId} {args : Array Value} {below : List Frame} {meth : Method} {c : Code} {ρ : bsR} {sc L : Nat} {xs : Nat → Int32} {cA : Nat → ClassId} {dC : Nat → ClassId} {dI : Nat → Nat → Nat} {A : Nat → Prop} {Ts : List Cond} {σ : xA2} {F : va_W} (k16 : Int32 → Int32 → Int32 → Int32 → Int32 → Int32 → bsX → pY → Option (Int32 × bsX × pY)) {z : (Int32 × bsX × pY)} (C : xCx p m c cL_finds 13 s args Ts RL ρ sc L xs cA dC dI A meth (some .boolean)) (hst : l.stackTraces = false) {NC16 NS16 : Nat} (hk16 : ∀ (x2 : Int32) (x3 : Int32) (x4 : Int32) (x5 : Int32) (x6 : Int32) (x7 : Int32) (X : bsX) (Z : pY) (θ : xA2) (cl sl : Nat), cl + NC16 ≤ 104 → sl + NS16 ≤ 624 → k16 x2 x3 x4 x5 x6 x7 X Z = some z → xV p l e rmL_finds s m args below meth c cl sl (MQ below (xQi ρ cA dC dI A (fun r X' R' => r = z.1 ∧ X' = z.2.1 ∧ ∃ θ' : xA2, R' = lwWs σ θ' cA z.2.2 ++ F)) args s rmL_finds.cells rmL_finds.slots A) ρ cA dC dI A (lwWs σ θ cA Z ++ (F ++ [])) 13 16 [(0, .ref (ρ 13 0 0)), (1, .ref (σ 0 0)), (2, .int x2), (3, .int x3), (4, .int x4), (5, .int x5), (6, .int x6), (7, .int x7)] [] X) (hn16 : 8 ≤ NC16 ∧ 48 ≤ NS16)  : ∀ (n : Nat), ∀ (x2 : Int32) (x3 : Int32) (x4 : Int32) (x5 : Int32) (x6 : Int32) (x7 : Int32) (q8 : Nat) (x9 : Int32) (x10 : Int32) (x11 : Int32) (x12 : Int32) (X : bsX) (Z : pY) (θ : xA2) (cl sl : Nat), q8 < ln Z → cl + (n * 0 + (12 + NC16)) ≤ 104 → sl + (n * 0 + (72 + NS16)) ≤ 624 → hL_finds_47 k16 n x2 x3 x4 x5 x6 x7 q8 x9 x10 x11 x12 X Z = some z → xV p l e rmL_finds s m args below meth c cl sl (MQ below (xQi ρ cA dC dI A (fun r X' R' => r = z.1 ∧ X' = z.2.1 ∧ ∃ θ' : xA2, R' = lwWs σ θ' cA z.2.2 ++ F)) args s rmL_finds.cells rmL_finds.slots A) ρ cA dC dI A (lwWs σ θ cA Z ++ (F ++ [])) 13 47 [(0, .ref (ρ 13 0 0)), (1, .ref (σ 0 0)), (2, .int x2), (3, .int x3), (4, .int x4), (5, .int x5), (6, .int x6), (7, .int x7), (8, .ref (σ 5 q8)), (9, .int x9), (10, .int x10), (11, .int x11), (12, .int x12)] [] X := by
  intro n
  induction n with
  | zero => intro x2 x3 x4 x5 x6 x7 q8 x9 x10 x11 x12 X Z θ cl sl hq8 hcl hsl hf; exact (nomatch hf)
  | succ n ih =>
    intro x2 x3 x4 x5 x6 x7 q8 x9 x10 x11 x12 X Z θ cl sl hq8 hcl hsl hf
    rw [hL_finds_47] at hf
    refine x_iload C dL_finds_47 rfl ?_
    refine x_aload_n C dL_finds_49 rfl rfl ?_
    refine xg_L_114 C dL_finds_50 ?_
    refine xn_plc C dL_finds_53 ?_
    refine x_icmp_ge (tgt := 147) C dL_finds_54 (by decide) (fun h122 => ?_) (fun h122 => ?_)
    · replace hf := bs_pos h122 hf
      refine x_iconst (v := 0) C dL_finds_147 (by decide) ?_
      refine x_aload_n C dL_finds_148 rfl rfl ?_
      refine xg_L_194 C dL_finds_149 ?_
      refine xn_bts C dL_finds_152 ?_
      refine x_bipush (v := 12) C dL_finds_153 (by decide) ?_
      refine x_isub C dL_finds_155 ?_
      refine x_mmax C (Nat.le_of_ble_eq_true rfl) (Nat.le_of_ble_eq_true rfl) (by show _ ≤ 104; omega) (by show _ ≤ 624; omega) (mm_L_220) dL_finds_156 ?_
      refine x_istore (lv' := [(12, .int (bsMax (0 : Int32) ((nI (lm Z)) - (12 : Int32)))), (0, .ref (ρ 13 0 0)), (1, .ref (σ 0 0)), (2, .int x2), (3, .int x3), (4, .int x4), (5, .int x5), (6, .int x6), (7, .int x7), (8, .ref (σ 5 q8)), (9, .int x9), (10, .int x10), (11, .int x11)]) C dL_finds_159 (by decide) rfl ?_
      refine x_sub [1, 2, 3, 4, 5, 6, 7, 8, 9, 10, 11, 12, 0] rfl ?_
      exact qL_finds_161 k16 C hst hk16 hn16 14 _ _ _ _ _ _ _ _ _ _ _ _ _ _  _ _ hq8 (by show _ + (0 + _) ≤ _; omega) (by show _ + (0 + _) ≤ _; omega) hf
    · replace hf := bs_neg h122 hf
      refine x_iload C dL_finds_57 rfl ?_
      refine x_aload_n C dL_finds_59 rfl rfl ?_
      refine x_iload C dL_finds_60 rfl ?_
      obtain ⟨r108, hc109, hf⟩ := bs_bind hf
      obtain ⟨q0, he⟩ := xr_wor σ θ cA Z (F ++ [])
      refine x_callVi (y := yX11_why) (As := [.int x12]) (rest := [.int x9]) C (cX11_why_ok  hc109) ml_L_120 wyX11_why he rfl dpX11_why ⟨Nat.le_of_ble_eq_true rfl, Nat.le_of_ble_eq_true rfl⟩ ⟨by show (cl) + 0 ≤ 104; omega, by show (sl) + (0) ≤ 624; omega⟩ rfl (Nat.le_of_ble_eq_true rfl) dL_finds_62 (fun r' X' R' hp => ?_)
      obtain ⟨rfl, rfl, θ, rfl⟩ := hp
      refine x_widen (k := (cl)) (n := (sl)) (by show (cl) + 0 ≤ _; omega) (by show (sl) + (0) ≤ _; omega) ?_
      refine x_if_ne (tgt := 87) C dL_finds_65 (by decide) (fun h121 => ?_) (fun h121 => ?_)
      · replace hf := bs_neg h121 hf
        obtain ⟨hg111, hf⟩ := bs_if hf
        refine x_sub [0, 1, 2, 3, 4, 5, 6, 7, 8, 10, 11, 12] rfl ?_
        exact qL_finds_87 k16 (hL_finds_47  k16 n) C hst hk16 hn16 ih ⟨by omega, by omega⟩ _ _ _ _ _ _ _ _ _ _ _ _ _ _  _ _ hg111 (by omega) (by omega) hf
      · replace hf := bs_pos h121 hf
        refine x_aload_n C dL_finds_68 rfl rfl ?_
        refine x_iload C dL_finds_69 rfl ?_
        obtain ⟨r112, hc113, hf⟩ := bs_bind hf
        obtain ⟨q0, he⟩ := xr_wor σ θ cA r108.2.2 (F ++ [])
        refine x_callVi (y := yX11_worth) (As := [.int x12]) (rest := [.int x9]) C (cX11_worth_ok  hc113) ml_L_217 wyX11_worth he rfl dpX11_worth ⟨Nat.le_of_ble_eq_true rfl, Nat.le_of_ble_eq_true rfl⟩ ⟨by show (cl) + 0 ≤ 104; omega, by show (sl) + (0) ≤ 624; omega⟩ rfl (Nat.le_of_ble_eq_true rfl) dL_finds_71 (fun r' X' R' hp => ?_)
        obtain ⟨rfl, rfl, θ, rfl⟩ := hp
        refine x_widen (k := (cl)) (n := (sl)) (by show (cl) + 0 ≤ _; omega) (by show (sl) + (0) ≤ _; omega) ?_
        refine x_aload_n C dL_finds_74 rfl rfl ?_
        refine x_iload C dL_finds_75 rfl ?_
        obtain ⟨r115, hc116, hf⟩ := bs_bind hf
        obtain ⟨q0, he⟩ := xr_wor σ θ cA r112.2.2 (F ++ [])
        refine x_callVi (y := yX11_worth) (As := [.int x7]) (rest := [.int r112.1, .int x9]) C (cX11_worth_ok  hc116) ml_L_217 wyX11_worth he rfl dpX11_worth ⟨Nat.le_of_ble_eq_true rfl, Nat.le_of_ble_eq_true rfl⟩ ⟨by show (cl) + 0 ≤ 104; omega, by show (sl) + (0) ≤ 624; omega⟩ rfl (Nat.le_of_ble_eq_true rfl) dL_finds_77 (fun r' X' R' hp => ?_)
        obtain ⟨rfl, rfl, θ, rfl⟩ := hp
        refine x_widen (k := (cl)) (n := (sl)) (by show (cl) + 0 ≤ _; omega) (by show (sl) + (0) ≤ _; omega) ?_
        refine x_icmp_le (tgt := 87) C dL_finds_80 (by decide) (fun h120 => ?_) (fun h120 => ?_)
        · replace hf := bs_pos h120 hf
          obtain ⟨hg118, hf⟩ := bs_if hf
          refine x_sub [0, 1, 2, 3, 4, 5, 6, 7, 8, 10, 11, 12] rfl ?_
          exact qL_finds_87 k16 (hL_finds_47  k16 n) C hst hk16 hn16 ih ⟨by omega, by omega⟩ _ _ _ _ _ _ _ _ _ _ _ _ _ _  _ _ hg118 (by omega) (by omega) hf
        · replace hf := bs_neg h120 hf
          refine x_iconst (v := 1) C dL_finds_83 (by decide) ?_
          refine x_goto (tgt := 88) C dL_finds_84 (by decide) ?_
          obtain ⟨hg119, hf⟩ := bs_if hf
          refine x_sub [0, 1, 2, 3, 4, 5, 6, 7, 8, 10, 11, 12] rfl ?_
          exact qL_finds_88 k16 (hL_finds_47  k16 n) C hst hk16 hn16 ih ⟨by omega, by omega⟩ _ _ _ _ _ _ _ _ _ _ _ _ _ _ _  _ _ hg119 (by omega) (by omega) hf
