theorem ml_X11_133 : Cond.methodLink RX11 133 yX11_choice ∈ bsG := bsG_in 1319 (by decide +kernel) rfl
theorem ml_X11_159 : Cond.methodLink RX11 159 yX11_boot ∈ bsG := bsG_in 1341 (by decide +kernel) rfl
theorem ml_X11_165 : Cond.methodLink RX11 165 yX11_floorWith ∈ bsG := bsG_in 1342 (by decide +kernel) rfl
theorem ml_X11_168 : Cond.methodLink RX11 168 yX10_empties ∈ bsG := bsG_in 1352 (by decide +kernel) rfl
theorem ml_X11_171 : Cond.methodLink RX11 171 yX11_goes ∈ bsG := bsG_in 1337 (by decide +kernel) rfl
theorem ml_X11_174 : Cond.methodLink RX11 174 yX11_comes ∈ bsG := bsG_in 1348 (by decide +kernel) rfl
theorem ml_X11_178 : Cond.methodLink RX11 178 yX11_tick ∈ bsG := bsG_in 1333 (by decide +kernel) rfl
theorem dpX11_boot : (parseMethodDescriptor yX11_boot.desc).map (fun d => d.parameters.length) = some 1 := by decide +kernel
theorem wyX11_boot : bsWy yX11_boot cX11_boot 5 (some .int) := ⟨bsG_in 1316 (by decide +kernel) rfl, bsG_in 1317 (by decide +kernel) rfl, bsG_in 39 (by decide +kernel) rfl, bsG_in 1318 (by decide +kernel) rfl, by decide +kernel, by decide +kernel⟩
theorem dpX11_choice : (parseMethodDescriptor yX11_choice.desc).map (fun d => d.parameters.length) = some 1 := by decide +kernel
theorem wyX11_choice : bsWy yX11_choice cX11_choice 4 (some .int) := ⟨bsG_in 1320 (by decide +kernel) rfl, bsG_in 1321 (by decide +kernel) rfl, bsG_in 39 (by decide +kernel) rfl, bsG_in 1322 (by decide +kernel) rfl, by decide +kernel, by decide +kernel⟩
theorem dpX11_comes : (parseMethodDescriptor yX11_comes.desc).map (fun d => d.parameters.length) = some 3 := by decide +kernel
theorem wyX11_comes : bsWy yX11_comes cX11_comes 6 none := ⟨bsG_in 1349 (by decide +kernel) rfl, bsG_in 1350 (by decide +kernel) rfl, bsG_in 39 (by decide +kernel) rfl, bsG_in 1351 (by decide +kernel) rfl, by decide +kernel, by decide +kernel⟩
theorem dpX11_floorWith : (parseMethodDescriptor yX11_floorWith.desc).map (fun d => d.parameters.length) = some 1 := by decide +kernel
theorem wyX11_floorWith : bsWy yX11_floorWith cX11_floorWith 4 (some .int) := ⟨bsG_in 1343 (by decide +kernel) rfl, bsG_in 1344 (by decide +kernel) rfl, bsG_in 39 (by decide +kernel) rfl, bsG_in 1345 (by decide +kernel) rfl, by decide +kernel, by decide +kernel⟩
theorem dpX11_goes : (parseMethodDescriptor yX11_goes.desc).map (fun d => d.parameters.length) = some 0 := by decide +kernel
theorem wyX11_goes : bsWy yX11_goes cX11_goes 3 none := ⟨bsG_in 1339 (by decide +kernel) rfl, bsG_in 30 (by decide +kernel) rfl, bsG_in 39 (by decide +kernel) rfl, bsG_in 1340 (by decide +kernel) rfl, by decide +kernel, by decide +kernel⟩
theorem dpX11_tick : (parseMethodDescriptor yX11_tick.desc).map (fun d => d.parameters.length) = some 0 := by decide +kernel
theorem wyX11_tick : bsWy yX11_tick cX11_tick 2 (some (.object "BootSlotsLaw$World")) := ⟨bsG_in 1334 (by decide +kernel) rfl, bsG_in 1335 (by decide +kernel) rfl, bsG_in 39 (by decide +kernel) rfl, bsG_in 1336 (by decide +kernel) rfl, by decide +kernel, by decide +kernel⟩
/-! BootSlotsLaw$World.comes(I[II)V -/
def hX11_comes_38 (k6 : Int32 → Int32 → Int32 → Int32 → bsX → pY → Option (Int32 × bsX × pY)) (x1 : Int32) (x3 : Int32) (x5 : Int32) (y0 : Int32) (y1 : Int32) (X : bsX) (Z : pY) : Option (Int32 × bsX × pY) := k6 x1 x3 (bsMax y0 y1) (x5 + (1 : Int32)) X Z
def hX11_comes_105 (k52 : Int32 → Int32 → Int32 → Int32 → bsX → pY → Option (Int32 × bsX × pY)) (x1 : Int32) (x3 : Int32) (x4 : Int32) (x5 : Int32) (X : bsX) (Z : pY) : Option (Int32 × bsX × pY) := k52 x1 x3 x4 (x5 + (1 : Int32)) X Z
def hX11_comes_154 (x3 : Int32) (q5 : Nat) (u0 : Nat) (y1 : Int32) (X : bsX) (Z : pY) : Option (Int32 × bsX × pY) := some ((0 : Int32), X, (wr (wr Z 5 u0 2 y1) 5 q5 3 x3))
def hX11_comes_111 (x1 : Int32) (x3 : Int32) (x4 : Int32) (X : bsX) (Z : pY) : Option (Int32 × bsX × pY) := if bsIn x1 (ln Z) then (if x4 = (15 : Int32) then (hX11_comes_154   x3 (bsIx x1) (bsIx x1) (15 : Int32) X (zImg (bsIx x1) (zEmp (bsIx x1) Z))) else (hX11_comes_154   x3 (bsIx x1) (bsIx x1) (x4 + (1 : Int32)) X (zImg (bsIx x1) (zEmp (bsIx x1) Z)))) else none
def hX11_comes_52 : Nat → Int32 → Int32 → Int32 → Int32 → bsX → pY → Option (Int32 × bsX × pY)
  | 0, _, _, _, _, _, _ => none
  | n + 1, x1, x3, x4, x5, X, Z => if (nI (ln Z)) ≤ x5 then (hX11_comes_111   x1 x3 x4 X Z) else (if x4 = (15 : Int32) then (if x5 = x1 then (hX11_comes_105  (hX11_comes_52   n) x1 x3 x4 x5 X Z) else (if bsIn x5 (ln Z) then (if (Z 5 (bsIx x5) 2) ≤ (1 : Int32) then (hX11_comes_105  (hX11_comes_52   n) x1 x3 x4 x5 X Z) else (hX11_comes_105  (hX11_comes_52   n) x1 x3 x4 x5 X (wr Z 5 (bsIx x5) 2 ((Z 5 (bsIx x5) 2) - (1 : Int32))))) else none)) else (hX11_comes_111   x1 x3 x4 X Z))
def hX11_comes_6 : Nat → Int32 → Int32 → Int32 → Int32 → bsX → pY → Option (Int32 × bsX × pY)
  | 0, _, _, _, _, _, _ => none
  | n + 1, x1, x3, x4, x5, X, Z => if (nI (ln Z)) ≤ x5 then (hX11_comes_52   8 x1 x3 x4 (0 : Int32) X Z) else (if x5 = x1 then (hX11_comes_38  (hX11_comes_6   n) x1 x3 x5 x4 (0 : Int32) X Z) else (if bsIn x5 (ln Z) then (hX11_comes_38  (hX11_comes_6   n) x1 x3 x5 x4 (Z 5 (bsIx x5) 2) X Z) else none))
def hX11_comes (a1 : Int32) (a3 : Int32) (X : bsX) (Z : pY) : Option (Int32 × bsX × pY) := hX11_comes_6   8 a1 a3 (0 : Int32) (0 : Int32) X Z
abbrev rmX11_comes : Room := { frames := 1, cells := 2, slots := 10, locals := 60 }
set_option maxHeartbeats 4000000 in
set_option maxRecDepth 100000 in
theorem qX11_comes_38 {p : Program} {l : Launch} {e : Env} {s : State} {m : MethodId} {args : Array Value} {below : List Frame} {meth : Method} {c : Code} {ρ : bsR} {sc L : Nat} {xs : Nat → Int32} {cA : Nat → ClassId} {dC : Nat → ClassId} {dI : Nat → Nat → Nat} {A : Nat → Prop} {Ts : List Cond} {σ : xA2} {F : va_W} (k6 : Int32 → Int32 → Int32 → Int32 → bsX → pY → Option (Int32 × bsX × pY)) {z : (Int32 × bsX × pY)} (C : xCx p m c cX11_comes 6 s args Ts RX11 ρ sc L xs cA dC dI A meth none) {NC6 NS6 : Nat} (hk6 : ∀ (x1 : Int32) (x3 : Int32) (x4 : Int32) (x5 : Int32) (X : bsX) (Z : pY) (θ : xA2) (cl sl : Nat), cl + NC6 ≤ 2 → sl + NS6 ≤ 10 → k6 x1 x3 x4 x5 X Z = some z → xV p l e rmX11_comes s m args below meth c cl sl (MQ below (xQv ρ cA dC dI A (fun X' R' => X' = z.2.1 ∧ ∃ θ' : xA2, R' = lwWs σ θ' cA z.2.2 ++ F)) args s rmX11_comes.cells rmX11_comes.slots A) ρ cA dC dI A (lwWs σ θ cA Z ++ (F ++ [])) 6 6 [(0, .ref (σ 0 0)), (1, .int x1), (2, .ref (σ 4 0)), (3, .int x3), (4, .int x4), (5, .int x5)] [] X) (hn6 : 2 ≤ NC6 ∧ 10 ≤ NS6)  : ∀ (x1 : Int32) (x3 : Int32) (x5 : Int32) (y0 : Int32) (y1 : Int32) (X : bsX) (Z : pY) (θ : xA2) (cl sl : Nat), cl + ((0 + NC6)) ≤ 2 → sl + ((0 + NS6)) ≤ 10 → hX11_comes_38 k6 x1 x3 x5 y0 y1 X Z = some z → xV p l e rmX11_comes s m args below meth c cl sl (MQ below (xQv ρ cA dC dI A (fun X' R' => X' = z.2.1 ∧ ∃ θ' : xA2, R' = lwWs σ θ' cA z.2.2 ++ F)) args s rmX11_comes.cells rmX11_comes.slots A) ρ cA dC dI A (lwWs σ θ cA Z ++ (F ++ [])) 6 38 [(0, .ref (σ 0 0)), (1, .int x1), (2, .ref (σ 4 0)), (3, .int x3), (5, .int x5)] [.int y1, .int y0] X := by
  intro x1 x3 x5 y0 y1 X Z θ cl sl hcl hsl hf
  rw [hX11_comes_38] at hf
  refine x_mmax C (Nat.le_of_ble_eq_true rfl) (Nat.le_of_ble_eq_true rfl) (by show _ ≤ 2; omega) (by show _ ≤ 10; omega) (mm_X11_153) dX11_comes_38 ?_
  refine x_istore (lv' := [(4, .int (bsMax y0 y1)), (0, .ref (σ 0 0)), (1, .int x1), (2, .ref (σ 4 0)), (3, .int x3), (5, .int x5)]) C dX11_comes_41 (by decide) rfl ?_
  refine x_iinc (k0 := 5) (v := (x5 + (1 : Int32))) (lv' := [(5, .int (x5 + (1 : Int32))), (4, .int (bsMax y0 y1)), (0, .ref (σ 0 0)), (1, .int x1), (2, .ref (σ 4 0)), (3, .int x3)]) C dX11_comes_43 rfl rfl (by decide) rfl ?_
  refine x_goto (tgt := 6) C dX11_comes_46 (by decide) ?_
  refine x_sub [2, 3, 4, 5, 1, 0] rfl ?_
  exact hk6 _ _ _ _ _ _ _  _ _  (by omega) (by omega) hf
set_option maxHeartbeats 4000000 in
set_option maxRecDepth 100000 in
theorem qX11_comes_105 {p : Program} {l : Launch} {e : Env} {s : State} {m : MethodId} {args : Array Value} {below : List Frame} {meth : Method} {c : Code} {ρ : bsR} {sc L : Nat} {xs : Nat → Int32} {cA : Nat → ClassId} {dC : Nat → ClassId} {dI : Nat → Nat → Nat} {A : Nat → Prop} {Ts : List Cond} {σ : xA2} {F : va_W} (k52 : Int32 → Int32 → Int32 → Int32 → bsX → pY → Option (Int32 × bsX × pY)) {z : (Int32 × bsX × pY)} (C : xCx p m c cX11_comes 6 s args Ts RX11 ρ sc L xs cA dC dI A meth none) {NC52 NS52 : Nat} (hk52 : ∀ (x1 : Int32) (x3 : Int32) (x4 : Int32) (x5 : Int32) (X : bsX) (Z : pY) (θ : xA2) (cl sl : Nat), cl + NC52 ≤ 2 → sl + NS52 ≤ 10 → k52 x1 x3 x4 x5 X Z = some z → xV p l e rmX11_comes s m args below meth c cl sl (MQ below (xQv ρ cA dC dI A (fun X' R' => X' = z.2.1 ∧ ∃ θ' : xA2, R' = lwWs σ θ' cA z.2.2 ++ F)) args s rmX11_comes.cells rmX11_comes.slots A) ρ cA dC dI A (lwWs σ θ cA Z ++ (F ++ [])) 6 52 [(0, .ref (σ 0 0)), (1, .int x1), (2, .ref (σ 4 0)), (3, .int x3), (4, .int x4), (5, .int x5)] [] X) (hn52 : 2 ≤ NC52 ∧ 10 ≤ NS52)  : ∀ (x1 : Int32) (x3 : Int32) (x4 : Int32) (x5 : Int32) (X : bsX) (Z : pY) (θ : xA2) (cl sl : Nat), cl + ((0 + NC52)) ≤ 2 → sl + ((0 + NS52)) ≤ 10 → hX11_comes_105 k52 x1 x3 x4 x5 X Z = some z → xV p l e rmX11_comes s m args below meth c cl sl (MQ below (xQv ρ cA dC dI A (fun X' R' => X' = z.2.1 ∧ ∃ θ' : xA2, R' = lwWs σ θ' cA z.2.2 ++ F)) args s rmX11_comes.cells rmX11_comes.slots A) ρ cA dC dI A (lwWs σ θ cA Z ++ (F ++ [])) 6 105 [(0, .ref (σ 0 0)), (1, .int x1), (2, .ref (σ 4 0)), (3, .int x3), (4, .int x4), (5, .int x5)] [] X := by
  intro x1 x3 x4 x5 X Z θ cl sl hcl hsl hf
  rw [hX11_comes_105] at hf
  refine x_iinc (k0 := 5) (v := (x5 + (1 : Int32))) (lv' := [(5, .int (x5 + (1 : Int32))), (0, .ref (σ 0 0)), (1, .int x1), (2, .ref (σ 4 0)), (3, .int x3), (4, .int x4)]) C dX11_comes_105 rfl rfl (by decide) rfl ?_
  refine x_goto (tgt := 52) C dX11_comes_108 (by decide) ?_
  refine x_sub [1, 2, 3, 4, 5, 0] rfl ?_
  exact hk52 _ _ _ _ _ _ _  _ _  (by omega) (by omega) hf
set_option maxHeartbeats 4000000 in
set_option maxRecDepth 100000 in
theorem qX11_comes_154 {p : Program} {l : Launch} {e : Env} {s : State} {m : MethodId} {args : Array Value} {below : List Frame} {meth : Method} {c : Code} {ρ : bsR} {sc L : Nat} {xs : Nat → Int32} {cA : Nat → ClassId} {dC : Nat → ClassId} {dI : Nat → Nat → Nat} {A : Nat → Prop} {Ts : List Cond} {σ : xA2} {F : va_W} {z : (Int32 × bsX × pY)} (C : xCx p m c cX11_comes 6 s args Ts RX11 ρ sc L xs cA dC dI A meth none)  : ∀ (x3 : Int32) (q5 : Nat) (u0 : Nat) (y1 : Int32) (X : bsX) (Z : pY) (θ : xA2) (cl sl : Nat), q5 < ln Z → u0 < ln Z → cl + ((0)) ≤ 2 → sl + ((0)) ≤ 10 → hX11_comes_154  x3 q5 u0 y1 X Z = some z → xV p l e rmX11_comes s m args below meth c cl sl (MQ below (xQv ρ cA dC dI A (fun X' R' => X' = z.2.1 ∧ ∃ θ' : xA2, R' = lwWs σ θ' cA z.2.2 ++ F)) args s rmX11_comes.cells rmX11_comes.slots A) ρ cA dC dI A (lwWs σ θ cA Z ++ (F ++ [])) 6 154 [(3, .int x3), (5, .ref (σ 5 q5))] [.int y1, .ref (σ 5 u0)] X := by
  intro x3 q5 u0 y1 X Z θ cl sl hq5 hu0 hcl hsl hf
  rw [hX11_comes_154] at hf
  refine xp_X11_79 C hu0 dX11_comes_154 ?_
  refine x_aload C dX11_comes_157 rfl ?_
  refine x_iload_n C dX11_comes_159 rfl rfl ?_
  refine xp_X11_82 C (ln_lt hq5 (by omega)) dX11_comes_160 ?_
  obtain rfl := Option.some.inj hf
  refine xu_dropall ?_
  exact x_vret C ⟨rfl, _, rfl⟩ (by show _ ≤ 2; omega) (by show _ ≤ 10; omega) dX11_comes_163
set_option maxHeartbeats 4000000 in
set_option maxRecDepth 100000 in
theorem qX11_comes_111 {p : Program} {l : Launch} {e : Env} {s : State} {m : MethodId} {args : Array Value} {below : List Frame} {meth : Method} {c : Code} {ρ : bsR} {sc L : Nat} {xs : Nat → Int32} {cA : Nat → ClassId} {dC : Nat → ClassId} {dI : Nat → Nat → Nat} {A : Nat → Prop} {Ts : List Cond} {σ : xA2} {F : va_W} {z : (Int32 × bsX × pY)} (C : xCx p m c cX11_comes 6 s args Ts RX11 ρ sc L xs cA dC dI A meth none)  : ∀ (x1 : Int32) (x3 : Int32) (x4 : Int32) (X : bsX) (Z : pY) (θ : xA2) (cl sl : Nat), cl + ((2)) ≤ 2 → sl + ((10)) ≤ 10 → hX11_comes_111  x1 x3 x4 X Z = some z → xV p l e rmX11_comes s m args below meth c cl sl (MQ below (xQv ρ cA dC dI A (fun X' R' => X' = z.2.1 ∧ ∃ θ' : xA2, R' = lwWs σ θ' cA z.2.2 ++ F)) args s rmX11_comes.cells rmX11_comes.slots A) ρ cA dC dI A (lwWs σ θ cA Z ++ (F ++ [])) 6 111 [(0, .ref (σ 0 0)), (1, .int x1), (2, .ref (σ 4 0)), (3, .int x3), (4, .int x4)] [] X := by
  intro x1 x3 x4 X Z θ cl sl hcl hsl hf
  rw [hX11_comes_111] at hf
  refine x_aload_n C dX11_comes_111 rfl rfl ?_
  refine xg_X11_66 C dX11_comes_112 ?_
  refine x_iload_n C dX11_comes_115 rfl rfl ?_
  obtain ⟨hg4, hf⟩ := bs_if hf
  refine xa_plc C hg4 dX11_comes_116 ?_
  refine x_astore (lv' := [(5, .ref (σ 5 (bsIx x1))), (0, .ref (σ 0 0)), (1, .int x1), (2, .ref (σ 4 0)), (3, .int x3), (4, .int x4)]) C dX11_comes_117 (by decide) rfl ?_
  refine x_aload C dX11_comes_119 rfl ?_
  obtain ⟨q0, he⟩ := xr_plc (Z := Z) σ θ cA (F ++ []) (bsIx_lt hg4)
  refine x_callVv (y := yX10_empties) (As := []) (rest := []) C (cX10_empties_ok (bsIx_lt hg4)) ml_X11_168 wyX10_empties he rfl dpX10_empties ⟨Nat.le_of_ble_eq_true rfl, Nat.le_of_ble_eq_true rfl⟩ ⟨by show (cl) + 1 ≤ 2; omega, by show (sl) + 5 ≤ 10; omega⟩ rfl (Nat.le_of_ble_eq_true rfl) dX11_comes_121 (fun X' R' hp => ?_)
  obtain ⟨hXX, θ, rfl⟩ := hp
  rw [hXX]
  clear hXX he
  refine x_widen (k := (cl + 1)) (n := (sl + 5)) (by show (cl) + 1 ≤ _; omega) (by show (sl) + 5 ≤ _; omega) ?_
  refine x_aload C dX11_comes_124 rfl ?_
  refine x_aload_n C dX11_comes_126 rfl rfl ?_
  obtain ⟨q4, -, he4⟩ := lw_at (σ := σ) (θ := θ) (cA := cA) (Z := (zEmp (bsIx x1) Z)) (K := 4) (j := 0) (lwK_mem.mpr (Or.inl ⟨by decide, rfl⟩)) (F ++ [])
  refine x_clone C (bsG_in 1356 (by decide +kernel) rfl) he4 (Nat.le_of_ble_eq_true rfl) (Nat.le_of_ble_eq_true rfl) ⟨by show (cl + 1) + 1 ≤ 2; omega, by show (sl + 5) + 5 ≤ 10; omega⟩ dX11_comes_127 (fun a => ?_)
  refine x_eq (xu_app (lwWs σ θ cA (zEmp (bsIx x1) Z)) F [] _) ?_
  refine x_widen (k := (cl + 2)) (n := (sl + 10)) (by show (cl + 1) + 1 ≤ _; omega) (by show (sl + 5) + 5 ≤ _; omega) ?_
  refine x_castI C (bsG_in 461 (by decide +kernel) rfl) (xu_at _ F _ 0) dX11_comes_130 ?_
  refine xu_same (T' := [(a, .inl (cA 0, 5, .inl (fun i => (zImg (bsIx x1) (zEmp (bsIx x1) Z)) 6 (bsIx x1) (i + 1))))]) 0 rfl (cell_I (fun i hi => zImg_img hi)) rfl ?_
  obtain ⟨q0, hq, he⟩ := lw_at (σ := σ) (θ := θ) (cA := cA) (Z := (zEmp (bsIx x1) Z)) (K := 5) (j := (bsIx x1)) (lwK_mem.mpr (Or.inr (Or.inl ⟨rfl, (zEmp_lt (bsIx_lt hg4))⟩))) (F ++ [(a, .inl (cA 0, 5, .inl (fun i => (zImg (bsIx x1) (zEmp (bsIx x1) Z)) 6 (bsIx x1) (i + 1))))])
  refine x_putN C (N := 8) (k := 0) (T := TX10) (Cn := RX10) (ref := "BootSlotsLaw$Place") (host := "BootSlotsLaw") (fs := lwF5 θ (zEmp (bsIx x1) Z) (bsIx x1)) (ty := .array .int) he rfl bsin_X10 tyX10 tyX10_ok nmX10 (by decide) (by decide +kernel) rfl rfl rfl rfl rfl (Nat.le_of_ble_eq_true rfl) (show _ = (lwWs σ θ cA (zEmp (bsIx x1) Z)).set q0 (σ 5 (bsIx x1), .inr (12, (lwF5 θ (zEmp (bsIx x1) Z) (bsIx x1)).set 0 (.ref a))) ++ (F ++ [(a, .inl (cA 0, 5, .inl (fun i => (zImg (bsIx x1) (zEmp (bsIx x1) Z)) 6 (bsIx x1) (i + 1))))]) from by rw [List.set_append, if_pos (by have := (List.getElem?_eq_some_iff.mp hq).1; simpa [lwWs] using this)]) dX11_comes_133 ?_
  refine x_newImg (Z' := (zImg (bsIx x1) (zEmp (bsIx x1) Z))) (zEmp_lt (bsIx_lt hg4)) hq zImg_ln zImg_lm rfl (fun K k i h => zImg_no h) (fun θ => ?_)
  clear he he4 hq
  refine xu_none ?_
  refine x_aload C dX11_comes_136 rfl ?_
  refine x_iload C dX11_comes_138 rfl ?_
  refine x_bipush (v := 15) C dX11_comes_140 (by decide) ?_
  refine x_icmp_ne (tgt := 150) C dX11_comes_142 (by decide) (fun h7 => ?_) (fun h7 => ?_)
  · replace hf := bs_neg h7 hf
    refine x_iload C dX11_comes_150 rfl ?_
    refine x_iconst (v := 1) C dX11_comes_152 (by decide) ?_
    refine x_iadd C dX11_comes_153 ?_
    refine x_sub [4, 0] rfl ?_
    exact qX11_comes_154  C  _ _ _ _ _ _ _  _ _ (zImg_lt (zEmp_lt (bsIx_lt hg4))) (zImg_lt (zEmp_lt (bsIx_lt hg4))) (by omega) (by omega) hf
  · replace hf := bs_pos h7 hf
    refine x_bipush (v := 15) C dX11_comes_145 (by decide) ?_
    refine x_goto (tgt := 154) C dX11_comes_147 (by decide) ?_
    refine x_sub [4, 0] rfl ?_
    exact qX11_comes_154  C  _ _ _ _ _ _ _  _ _ (zImg_lt (zEmp_lt (bsIx_lt hg4))) (zImg_lt (zEmp_lt (bsIx_lt hg4))) (by omega) (by omega) hf
set_option maxHeartbeats 4000000 in
set_option maxRecDepth 100000 in
theorem qX11_comes_52 {p : Program} {l : Launch} {e : Env} {s : State} {m : MethodId} {args : Array Value} {below : List Frame} {meth : Method} {c : Code} {ρ : bsR} {sc L : Nat} {xs : Nat → Int32} {cA : Nat → ClassId} {dC : Nat → ClassId} {dI : Nat → Nat → Nat} {A : Nat → Prop} {Ts : List Cond} {σ : xA2} {F : va_W} {z : (Int32 × bsX × pY)} (C : xCx p m c cX11_comes 6 s args Ts RX11 ρ sc L xs cA dC dI A meth none)  : ∀ (n : Nat), ∀ (x1 : Int32) (x3 : Int32) (x4 : Int32) (x5 : Int32) (X : bsX) (Z : pY) (θ : xA2) (cl sl : Nat), cl + (n * 0 + (2)) ≤ 2 → sl + (n * 0 + (10)) ≤ 10 → hX11_comes_52  n x1 x3 x4 x5 X Z = some z → xV p l e rmX11_comes s m args below meth c cl sl (MQ below (xQv ρ cA dC dI A (fun X' R' => X' = z.2.1 ∧ ∃ θ' : xA2, R' = lwWs σ θ' cA z.2.2 ++ F)) args s rmX11_comes.cells rmX11_comes.slots A) ρ cA dC dI A (lwWs σ θ cA Z ++ (F ++ [])) 6 52 [(0, .ref (σ 0 0)), (1, .int x1), (2, .ref (σ 4 0)), (3, .int x3), (4, .int x4), (5, .int x5)] [] X := by
  intro n
  induction n with
  | zero => intro x1 x3 x4 x5 X Z θ cl sl hcl hsl hf; exact (nomatch hf)
  | succ n ih =>
    intro x1 x3 x4 x5 X Z θ cl sl hcl hsl hf
    rw [hX11_comes_52] at hf
    refine x_iload C dX11_comes_52 rfl ?_
    refine x_aload_n C dX11_comes_54 rfl rfl ?_
    refine xg_X11_66 C dX11_comes_55 ?_
    refine xn_plc C dX11_comes_58 ?_
    refine x_icmp_ge (tgt := 111) C dX11_comes_59 (by decide) (fun h13 => ?_) (fun h13 => ?_)
    · replace hf := bs_pos h13 hf
      refine x_sub [0, 1, 2, 3, 4] rfl ?_
      exact qX11_comes_111  C  _ _ _ _ _ _  _ _  (by omega) (by omega) hf
    · replace hf := bs_neg h13 hf
      refine x_iload C dX11_comes_62 rfl ?_
      refine x_bipush (v := 15) C dX11_comes_64 (by decide) ?_
      refine x_icmp_ne (tgt := 111) C dX11_comes_66 (by decide) (fun h12 => ?_) (fun h12 => ?_)
      · replace hf := bs_neg h12 hf
        refine x_sub [0, 1, 2, 3, 4] rfl ?_
        exact qX11_comes_111  C  _ _ _ _ _ _  _ _  (by omega) (by omega) hf
      · replace hf := bs_pos h12 hf
        refine x_iload C dX11_comes_69 rfl ?_
        refine x_iload_n C dX11_comes_71 rfl rfl ?_
        refine x_icmp_eq (tgt := 105) C dX11_comes_72 (by decide) (fun h11 => ?_) (fun h11 => ?_)
        · replace hf := bs_pos h11 hf
          refine x_sub [0, 1, 2, 3, 4, 5] rfl ?_
          exact qX11_comes_105 (hX11_comes_52   n) C ih ⟨by omega, by omega⟩ _ _ _ _ _ _ _  _ _  (by omega) (by omega) hf
        · replace hf := bs_neg h11 hf
          refine x_aload_n C dX11_comes_75 rfl rfl ?_
          refine xg_X11_66 C dX11_comes_76 ?_
          refine x_iload C dX11_comes_79 rfl ?_
          obtain ⟨hg8, hf⟩ := bs_if hf
          refine xa_plc C hg8 dX11_comes_81 ?_
          refine xg_X11_79 C (bsIx_lt hg8) dX11_comes_82 ?_
          refine x_iconst (v := 1) C dX11_comes_85 (by decide) ?_
          refine x_icmp_le (tgt := 105) C dX11_comes_86 (by decide) (fun h10 => ?_) (fun h10 => ?_)
          · replace hf := bs_pos h10 hf
            refine x_sub [0, 1, 2, 3, 4, 5] rfl ?_
            exact qX11_comes_105 (hX11_comes_52   n) C ih ⟨by omega, by omega⟩ _ _ _ _ _ _ _  _ _  (by omega) (by omega) hf
          · replace hf := bs_neg h10 hf
            refine x_aload_n C dX11_comes_89 rfl rfl ?_
            refine xg_X11_66 C dX11_comes_90 ?_
            refine x_iload C dX11_comes_93 rfl ?_
            refine xa_plc C hg8 dX11_comes_95 ?_
            refine x_dup C dX11_comes_96 rfl ?_
            refine xg_X11_79 C (bsIx_lt hg8) dX11_comes_97 ?_
            refine x_iconst (v := 1) C dX11_comes_100 (by decide) ?_
            refine x_isub C dX11_comes_101 ?_
            refine xp_X11_79 C (bsIx_lt hg8) dX11_comes_102 ?_
            refine x_sub [0, 1, 2, 3, 4, 5] rfl ?_
            exact qX11_comes_105 (hX11_comes_52   n) C ih ⟨by omega, by omega⟩ _ _ _ _ _ _ _  _ _  (by omega) (by omega) hf
set_option maxHeartbeats 4000000 in
set_option maxRecDepth 100000 in
theorem qX11_comes_6 {p : Program} {l : Launch} {e : Env} {s : State} {m : MethodId} {args : Array Value} {below : List Frame} {meth : Method} {c : Code} {ρ : bsR} {sc L : Nat} {xs : Nat → Int32} {cA : Nat → ClassId} {dC : Nat → ClassId} {dI : Nat → Nat → Nat} {A : Nat → Prop} {Ts : List Cond} {σ : xA2} {F : va_W} {z : (Int32 × bsX × pY)} (C : xCx p m c cX11_comes 6 s args Ts RX11 ρ sc L xs cA dC dI A meth none)  : ∀ (n : Nat), ∀ (x1 : Int32) (x3 : Int32) (x4 : Int32) (x5 : Int32) (X : bsX) (Z : pY) (θ : xA2) (cl sl : Nat), cl + (n * 0 + (2)) ≤ 2 → sl + (n * 0 + (10)) ≤ 10 → hX11_comes_6  n x1 x3 x4 x5 X Z = some z → xV p l e rmX11_comes s m args below meth c cl sl (MQ below (xQv ρ cA dC dI A (fun X' R' => X' = z.2.1 ∧ ∃ θ' : xA2, R' = lwWs σ θ' cA z.2.2 ++ F)) args s rmX11_comes.cells rmX11_comes.slots A) ρ cA dC dI A (lwWs σ θ cA Z ++ (F ++ [])) 6 6 [(0, .ref (σ 0 0)), (1, .int x1), (2, .ref (σ 4 0)), (3, .int x3), (4, .int x4), (5, .int x5)] [] X := by
  intro n
  induction n with
  | zero => intro x1 x3 x4 x5 X Z θ cl sl hcl hsl hf; exact (nomatch hf)
  | succ n ih =>
    intro x1 x3 x4 x5 X Z θ cl sl hcl hsl hf
    rw [hX11_comes_6] at hf
    refine x_iload C dX11_comes_6 rfl ?_
    refine x_aload_n C dX11_comes_8 rfl rfl ?_
    refine xg_X11_66 C dX11_comes_9 ?_
    refine xn_plc C dX11_comes_12 ?_
    refine x_icmp_ge (tgt := 49) C dX11_comes_13 (by decide) (fun h3 => ?_) (fun h3 => ?_)
    · replace hf := bs_pos h3 hf
      refine x_iconst (v := 0) C dX11_comes_49 (by decide) ?_
      refine x_istore (lv' := [(5, .int (0 : Int32)), (0, .ref (σ 0 0)), (1, .int x1), (2, .ref (σ 4 0)), (3, .int x3), (4, .int x4)]) C dX11_comes_50 (by decide) rfl ?_
      refine x_sub [1, 2, 3, 4, 5, 0] rfl ?_
      exact qX11_comes_52  C  8 _ _ _ _ _ _ _  _ _  (by show _ + (0 + _) ≤ _; omega) (by show _ + (0 + _) ≤ _; omega) hf
    · replace hf := bs_neg h3 hf
      refine x_iload C dX11_comes_16 rfl ?_
      refine x_iload C dX11_comes_18 rfl ?_
      refine x_iload_n C dX11_comes_20 rfl rfl ?_
      refine x_icmp_ne (tgt := 28) C dX11_comes_21 (by decide) (fun h2 => ?_) (fun h2 => ?_)
      · replace hf := bs_neg h2 hf
        refine x_aload_n C dX11_comes_28 rfl rfl ?_
        refine xg_X11_66 C dX11_comes_29 ?_
        refine x_iload C dX11_comes_32 rfl ?_
        obtain ⟨hg1, hf⟩ := bs_if hf
        refine xa_plc C hg1 dX11_comes_34 ?_
        refine xg_X11_79 C (bsIx_lt hg1) dX11_comes_35 ?_
        refine x_sub [0, 1, 2, 3, 5] rfl ?_
        exact qX11_comes_38 (hX11_comes_6   n) C ih ⟨by omega, by omega⟩ _ _ _ _ _ _ _ _  _ _  (by omega) (by omega) hf
      · replace hf := bs_pos h2 hf
        refine x_iconst (v := 0) C dX11_comes_24 (by decide) ?_
        refine x_goto (tgt := 38) C dX11_comes_25 (by decide) ?_
        refine x_sub [0, 1, 2, 3, 5] rfl ?_
        exact qX11_comes_38 (hX11_comes_6   n) C ih ⟨by omega, by omega⟩ _ _ _ _ _ _ _ _  _ _  (by omega) (by omega) hf
set_option maxHeartbeats 4000000 in
set_option maxRecDepth 100000 in
theorem cX11_comes_ok {l : Launch} {ρ : bsR} {sc L : Nat} {xs : Nat → Int32} {cA : Nat → ClassId} {dC : Nat → ClassId} {dI : Nat → Nat → Nat} {σ θ : xA2} {F : va_W} {a1 : Int32} {a3 : Int32} {X : bsX} {Z : pY} {z : (Int32 × bsX × pY)} (hf : hX11_comes a1 a3 X Z = some z) : xMv l yX11_comes cX11_comes 6 none rmX11_comes ρ sc L xs cA dC dI [.ref (σ 0 0), .int a1, .ref (σ 4 0), .int a3] X (lwWs σ θ cA Z ++ F) (fun X' R' => X' = z.2.1 ∧ ∃ θ' : xA2, R' = lwWs σ θ' cA z.2.2 ++ F) := by
  refine xMv_of (by decide) (Nat.le_of_ble_eq_true rfl) (fun p e s m args below meth c C => ?_)
  have C : xCx p m c cX11_comes 6 s args (Cond.code yX11_comes cX11_comes 6 none :: bsG) RX11 ρ sc L xs cA dC dI (bsA ρ cA (lwWs σ θ cA Z ++ F) s.heap.size) meth none := C
  rw [hX11_comes] at hf
  generalize (bsA ρ cA (lwWs σ θ cA Z ++ F) s.heap.size) = A at C ⊢
  refine x_sub [0, 1, 2, 3] rfl ?_
  refine xu_none ?_
  refine x_iconst (v := 0) C dX11_comes_0 (by decide) ?_
  refine x_istore (lv' := [(4, .int (0 : Int32)), (0, .ref (σ 0 0)), (1, .int a1), (2, .ref (σ 4 0)), (3, .int a3)]) C dX11_comes_1 (by decide) rfl ?_
  refine x_iconst (v := 0) C dX11_comes_3 (by decide) ?_
  refine x_istore (lv' := [(5, .int (0 : Int32)), (4, .int (0 : Int32)), (0, .ref (σ 0 0)), (1, .int a1), (2, .ref (σ 4 0)), (3, .int a3)]) C dX11_comes_4 (by decide) rfl ?_
  refine x_sub [2, 3, 4, 5, 1, 0] rfl ?_
  exact qX11_comes_6  C  8 _ _ _ _ _ _ _  _ _  (by show _ + (0 + _) ≤ _; omega) (by show _ + (0 + _) ≤ _; omega) hf
/-! BootSlotsLaw$World.boot(I)I -/
def hX11_boot_154 (B : Nat) (x1 : Int32) (x2 : Int32) (x3 : Int32) (X : bsX) (Z : pY) : Option (Int32 × bsX × pY) := if lm (wr Z 11 0 12 ((Z 11 0 12) + (1 : Int32))) ≤ B then (if B ≤ 90000 then (some (x2, X, zLog x1 x2 x3 (wr Z 11 0 12 ((Z 11 0 12) + (1 : Int32))))) else none) else none
def hX11_boot_132 (B : Nat) (x1 : Int32) (x2 : Int32) (x3 : Int32) (y1 : Int32) (X : bsX) (Z : pY) : Option (Int32 × bsX × pY) := if x3 < 0 then (hX11_boot_154 B  x1 x2 x3 X (wr Z 0 0 10 y1)) else (if bsIn x3 (ln (wr Z 0 0 10 y1)) then (hX11_boot_154 B  x1 x2 x3 X (wr (wr Z 0 0 10 y1) 5 (bsIx x3) 6 (((wr Z 0 0 10 y1) 5 (bsIx x3) 6) + (1 : Int32)))) else none)
def hX11_boot_112 (B : Nat) (x1 : Int32) (x2 : Int32) (x3 : Int32) (X : bsX) (Z : pY) : Option (Int32 × bsX × pY) := if 0 ≤ x3 then (hX11_boot_132 B  x1 x2 x3 (1 : Int32) X (wr (wr Z 0 0 12 (0 : Int32)) 0 0 11 x3)) else (hX11_boot_132 B  x1 x2 x3 (2 : Int32) X (wr (wr Z 0 0 12 (0 : Int32)) 0 0 11 x3))
def hX11_boot_61 (B : Nat) (k8 : Int32 → Int32 → Int32 → bsX → pY → Option (Int32 × bsX × pY)) (x1 : Int32) (x2 : Int32) (x3 : Int32) (q4 : Nat) (X : bsX) (Z : pY) : Option (Int32 × bsX × pY) := if (Z 6 q4 5) = 0 then (hX11_boot_112 B  x1 x2 x3 X Z) else ((hX11_choice  (-1 : Int32) X (wr (wr (wr Z 5 q4 2 (0 : Int32)) 5 q4 4 (0 : Int32)) 11 0 14 (((wr (wr Z 5 q4 2 (0 : Int32)) 5 q4 4 (0 : Int32)) 11 0 14) + (1 : Int32)))).bind fun r16 => k8 x1 (x2 + ((1 : Int32) <<< (x3 &&& 31))) r16.1 r16.2.1 r16.2.2)
def hX11_boot_8 (B : Nat) : Nat → Int32 → Int32 → Int32 → bsX → pY → Option (Int32 × bsX × pY)
  | 0, _, _, _, _, _ => none
  | n + 1, x1, x2, x3, X, Z => if x3 < 0 then (hX11_boot_112 B  x1 x2 x3 X Z) else (if bsIn x3 (ln Z) then (if (Z 5 (bsIx x3) 4) = 0 then (hX11_boot_61 B (hX11_boot_8 B  n) x1 x2 x3 (bsIx x3) X (wr (wr (wr Z 5 (bsIx x3) 3 ((Z 5 (bsIx x3) 3) - (1 : Int32))) 5 (bsIx x3) 7 (((wr Z 5 (bsIx x3) 3 ((Z 5 (bsIx x3) 3) - (1 : Int32))) 5 (bsIx x3) 7) + (1 : Int32))) 11 0 13 (((wr (wr Z 5 (bsIx x3) 3 ((Z 5 (bsIx x3) 3) - (1 : Int32))) 5 (bsIx x3) 7 (((wr Z 5 (bsIx x3) 3 ((Z 5 (bsIx x3) 3) - (1 : Int32))) 5 (bsIx x3) 7) + (1 : Int32))) 11 0 13) + (1 : Int32)))) else (hX11_boot_61 B (hX11_boot_8 B  n) x1 x2 x3 (bsIx x3) X Z)) else none)
def hX11_boot (B : Nat) (a1 : Int32) (X : bsX) (Z : pY) : Option (Int32 × bsX × pY) := (hX11_choice  (-1 : Int32) X Z).bind fun r20 => hX11_boot_8 B  8 a1 (0 : Int32) r20.1 r20.2.1 r20.2.2
abbrev rmX11_boot (B : Nat) : Room := { frames := 3, cells := 2, slots := 5 + 1 * B, locals := 300 }
set_option maxHeartbeats 4000000 in
set_option maxRecDepth 100000 in
theorem qX11_boot_154 {p : Program} {l : Launch} {e : Env} {s : State} {m : MethodId} {args : Array Value} {below : List Frame} {meth : Method} {c : Code} {ρ : bsR} {sc L : Nat} {xs : Nat → Int32} {cA : Nat → ClassId} {dC : Nat → ClassId} {dI : Nat → Nat → Nat} {A : Nat → Prop} {Ts : List Cond} {σ : xA2} {F : va_W} {B : Nat} {z : (Int32 × bsX × pY)} (C : xCx p m c cX11_boot 5 s args Ts RX11 ρ sc L xs cA dC dI A meth (some .int))  : ∀ (x1 : Int32) (x2 : Int32) (x3 : Int32) (X : bsX) (Z : pY) (θ : xA2) (cl sl : Nat), cl + ((2)) ≤ 2 → sl + ((5 + 1 * B)) ≤ 5 + 1 * B → hX11_boot_154 B x1 x2 x3 X Z = some z → xV p l e (rmX11_boot B) s m args below meth c cl sl (MQ below (xQi ρ cA dC dI A (fun r X' R' => r = z.1 ∧ X' = z.2.1 ∧ ∃ θ' : xA2, R' = lwWs σ θ' cA z.2.2 ++ F)) args s (rmX11_boot B).cells (rmX11_boot B).slots A) ρ cA dC dI A (lwWs σ θ cA Z ++ (F ++ [])) 5 154 [(0, .ref (σ 0 0)), (1, .int x1), (2, .int x2), (3, .int x3)] [] X := by
  intro x1 x2 x3 X Z θ cl sl hcl hsl hf
  rw [hX11_boot_154] at hf
  refine x_aload_n C dX11_boot_154 rfl rfl ?_
  refine xg_X11_13 C dX11_boot_155 ?_
  refine x_bipush (v := 12) C dX11_boot_158 (by decide) ?_
  refine x_dup2 C dX11_boot_160 rfl rfl ?_
  refine xl_cnt C (by decide) dX11_boot_161 ?_
  refine x_iconst (v := 1) C dX11_boot_162 (by decide) ?_
  refine x_iadd C dX11_boot_163 ?_
  refine xs_cnt C (by decide) dX11_boot_164 ?_
  obtain ⟨hg11, hf⟩ := bs_if hf
  obtain ⟨hg12, hf⟩ := bs_if hf
  refine x_sub [0, 1, 2, 3] rfl ?_
  exact qX11_boot_165 C (Nat.le_of_ble_eq_true rfl) (by show _ ≤ 300; decide +kernel) _ _ _ _ _ _ _ _ hg11 hg12 (by show (cl) + 2 ≤ 2; omega) (by show (sl) + (5 + 1 * B) ≤ 5 + 1 * B; omega) (Nat.le_refl _) (Nat.le_refl _) hf
set_option maxHeartbeats 4000000 in
set_option maxRecDepth 100000 in
theorem qX11_boot_132 {p : Program} {l : Launch} {e : Env} {s : State} {m : MethodId} {args : Array Value} {below : List Frame} {meth : Method} {c : Code} {ρ : bsR} {sc L : Nat} {xs : Nat → Int32} {cA : Nat → ClassId} {dC : Nat → ClassId} {dI : Nat → Nat → Nat} {A : Nat → Prop} {Ts : List Cond} {σ : xA2} {F : va_W} {B : Nat} {z : (Int32 × bsX × pY)} (C : xCx p m c cX11_boot 5 s args Ts RX11 ρ sc L xs cA dC dI A meth (some .int))  : ∀ (x1 : Int32) (x2 : Int32) (x3 : Int32) (y1 : Int32) (X : bsX) (Z : pY) (θ : xA2) (cl sl : Nat), cl + ((2)) ≤ 2 → sl + ((5 + 1 * B)) ≤ 5 + 1 * B → hX11_boot_132 B x1 x2 x3 y1 X Z = some z → xV p l e (rmX11_boot B) s m args below meth c cl sl (MQ below (xQi ρ cA dC dI A (fun r X' R' => r = z.1 ∧ X' = z.2.1 ∧ ∃ θ' : xA2, R' = lwWs σ θ' cA z.2.2 ++ F)) args s (rmX11_boot B).cells (rmX11_boot B).slots A) ρ cA dC dI A (lwWs σ θ cA Z ++ (F ++ [])) 5 132 [(0, .ref (σ 0 0)), (1, .int x1), (2, .int x2), (3, .int x3)] [.int y1, .ref (σ 0 0)] X := by
  intro x1 x2 x3 y1 X Z θ cl sl hcl hsl hf
  rw [hX11_boot_132] at hf
  refine xp_X11_105 C dX11_boot_132 ?_
  refine x_iload_n C dX11_boot_135 rfl rfl ?_
  refine x_if_lt (tgt := 154) C dX11_boot_136 (by decide) (fun h3 => ?_) (fun h3 => ?_)
  · replace hf := bs_pos h3 hf
    refine x_sub [0, 1, 2, 3] rfl ?_
    exact qX11_boot_154  C  _ _ _ _ _ _  _ _  (by omega) (by omega) hf
  · replace hf := bs_neg h3 hf
    refine x_aload_n C dX11_boot_139 rfl rfl ?_
    refine xg_X11_66 C dX11_boot_140 ?_
    refine x_iload_n C dX11_boot_143 rfl rfl ?_
    obtain ⟨hg1, hf⟩ := bs_if hf
    refine xa_plc C hg1 dX11_boot_144 ?_
    refine x_dup C dX11_boot_145 rfl ?_
    refine xg_X11_139 C (bsIx_lt hg1) dX11_boot_146 ?_
    refine x_iconst (v := 1) C dX11_boot_149 (by decide) ?_
    refine x_iadd C dX11_boot_150 ?_
    refine xp_X11_139 C (bsIx_lt hg1) dX11_boot_151 ?_
    refine x_sub [0, 1, 2, 3] rfl ?_
    exact qX11_boot_154  C  _ _ _ _ _ _  _ _  (by omega) (by omega) hf
set_option maxHeartbeats 4000000 in
set_option maxRecDepth 100000 in
theorem qX11_boot_112 {p : Program} {l : Launch} {e : Env} {s : State} {m : MethodId} {args : Array Value} {below : List Frame} {meth : Method} {c : Code} {ρ : bsR} {sc L : Nat} {xs : Nat → Int32} {cA : Nat → ClassId} {dC : Nat → ClassId} {dI : Nat → Nat → Nat} {A : Nat → Prop} {Ts : List Cond} {σ : xA2} {F : va_W} {B : Nat} {z : (Int32 × bsX × pY)} (C : xCx p m c cX11_boot 5 s args Ts RX11 ρ sc L xs cA dC dI A meth (some .int))  : ∀ (x1 : Int32) (x2 : Int32) (x3 : Int32) (X : bsX) (Z : pY) (θ : xA2) (cl sl : Nat), cl + ((2)) ≤ 2 → sl + ((5 + 1 * B)) ≤ 5 + 1 * B → hX11_boot_112 B x1 x2 x3 X Z = some z → xV p l e (rmX11_boot B) s m args below meth c cl sl (MQ below (xQi ρ cA dC dI A (fun r X' R' => r = z.1 ∧ X' = z.2.1 ∧ ∃ θ' : xA2, R' = lwWs σ θ' cA z.2.2 ++ F)) args s (rmX11_boot B).cells (rmX11_boot B).slots A) ρ cA dC dI A (lwWs σ θ cA Z ++ (F ++ [])) 5 112 [(0, .ref (σ 0 0)), (1, .int x1), (2, .int x2), (3, .int x3)] [] X := by
  intro x1 x2 x3 X Z θ cl sl hcl hsl hf
  rw [hX11_boot_112] at hf
  refine x_aload_n C dX11_boot_112 rfl rfl ?_
  refine x_iconst (v := 0) C dX11_boot_113 (by decide) ?_
  refine xp_X11_108 C dX11_boot_114 ?_
  refine x_aload_n C dX11_boot_117 rfl rfl ?_
  refine x_iload_n C dX11_boot_118 rfl rfl ?_
  refine xp_X11_7 C dX11_boot_119 ?_
  refine x_aload_n C dX11_boot_122 rfl rfl ?_
  refine x_iload_n C dX11_boot_123 rfl rfl ?_
  refine x_if_ge (tgt := 131) C dX11_boot_124 (by decide) (fun h10 => ?_) (fun h10 => ?_)
  · replace hf := bs_pos h10 hf
    refine x_iconst (v := 1) C dX11_boot_131 (by decide) ?_
    refine x_sub [0, 1, 2, 3] rfl ?_
    exact qX11_boot_132  C  _ _ _ _ _ _ _  _ _  (by omega) (by omega) hf
  · replace hf := bs_neg h10 hf
    refine x_iconst (v := 2) C dX11_boot_127 (by decide) ?_
    refine x_goto (tgt := 132) C dX11_boot_128 (by decide) ?_
    refine x_sub [0, 1, 2, 3] rfl ?_
    exact qX11_boot_132  C  _ _ _ _ _ _ _  _ _  (by omega) (by omega) hf
set_option maxHeartbeats 4000000 in
set_option maxRecDepth 100000 in
theorem qX11_boot_61 {p : Program} {l : Launch} {e : Env} {s : State} {m : MethodId} {args : Array Value} {below : List Frame} {meth : Method} {c : Code} {ρ : bsR} {sc L : Nat} {xs : Nat → Int32} {cA : Nat → ClassId} {dC : Nat → ClassId} {dI : Nat → Nat → Nat} {A : Nat → Prop} {Ts : List Cond} {σ : xA2} {F : va_W} {B : Nat} (k8 : Int32 → Int32 → Int32 → bsX → pY → Option (Int32 × bsX × pY)) {z : (Int32 × bsX × pY)} (C : xCx p m c cX11_boot 5 s args Ts RX11 ρ sc L xs cA dC dI A meth (some .int)) {NC8 NS8 : Nat} (hk8 : ∀ (x1 : Int32) (x2 : Int32) (x3 : Int32) (X : bsX) (Z : pY) (θ : xA2) (cl sl : Nat), cl + NC8 ≤ 2 → sl + NS8 ≤ 5 + 1 * B → k8 x1 x2 x3 X Z = some z → xV p l e (rmX11_boot B) s m args below meth c cl sl (MQ below (xQi ρ cA dC dI A (fun r X' R' => r = z.1 ∧ X' = z.2.1 ∧ ∃ θ' : xA2, R' = lwWs σ θ' cA z.2.2 ++ F)) args s (rmX11_boot B).cells (rmX11_boot B).slots A) ρ cA dC dI A (lwWs σ θ cA Z ++ (F ++ [])) 5 8 [(0, .ref (σ 0 0)), (1, .int x1), (2, .int x2), (3, .int x3)] [] X) (hn8 : 2 ≤ NC8 ∧ 5 + 1 * B ≤ NS8)  : ∀ (x1 : Int32) (x2 : Int32) (x3 : Int32) (q4 : Nat) (X : bsX) (Z : pY) (θ : xA2) (cl sl : Nat), q4 < ln Z → cl + ((0 + NC8)) ≤ 2 → sl + ((0 + NS8)) ≤ 5 + 1 * B → hX11_boot_61 B k8 x1 x2 x3 q4 X Z = some z → xV p l e (rmX11_boot B) s m args below meth c cl sl (MQ below (xQi ρ cA dC dI A (fun r X' R' => r = z.1 ∧ X' = z.2.1 ∧ ∃ θ' : xA2, R' = lwWs σ θ' cA z.2.2 ++ F)) args s (rmX11_boot B).cells (rmX11_boot B).slots A) ρ cA dC dI A (lwWs σ θ cA Z ++ (F ++ [])) 5 61 [(0, .ref (σ 0 0)), (1, .int x1), (2, .int x2), (3, .int x3), (4, .ref (σ 5 q4))] [] X := by
  intro x1 x2 x3 q4 X Z θ cl sl hq4 hcl hsl hf
  rw [hX11_boot_61] at hf
  refine x_aload C dX11_boot_61 rfl ?_
  refine xg_X11_76 C hq4 dX11_boot_63 ?_
  refine x_iconst (v := 4) C dX11_boot_66 (by decide) ?_
  refine xl_img C hq4 (by decide) dX11_boot_67 ?_
  refine x_if_ne (tgt := 74) C dX11_boot_68 (by decide) (fun h19 => ?_) (fun h19 => ?_)
  · replace hf := bs_neg h19 hf
    refine x_aload C dX11_boot_74 rfl ?_
    refine x_iconst (v := 0) C dX11_boot_76 (by decide) ?_
    refine xp_X11_79 C hq4 dX11_boot_77 ?_
    refine x_aload C dX11_boot_80 rfl ?_
    refine x_iconst (v := 0) C dX11_boot_82 (by decide) ?_
    refine xp_X11_93 C (ln_lt hq4 (by omega)) (by decide) dX11_boot_83 ?_
    refine x_aload_n C dX11_boot_86 rfl rfl ?_
    refine xg_X11_13 C dX11_boot_87 ?_
    refine x_bipush (v := 14) C dX11_boot_90 (by decide) ?_
    refine x_dup2 C dX11_boot_92 rfl rfl ?_
    refine xl_cnt C (by decide) dX11_boot_93 ?_
    refine x_iconst (v := 1) C dX11_boot_94 (by decide) ?_
    refine x_iadd C dX11_boot_95 ?_
    refine xs_cnt C (by decide) dX11_boot_96 ?_
    refine x_iload_n C dX11_boot_97 rfl rfl ?_
    refine x_iconst (v := 1) C dX11_boot_98 (by decide) ?_
    refine x_iload_n C dX11_boot_99 rfl rfl ?_
    refine x_ishl C dX11_boot_100 ?_
    refine x_iadd C dX11_boot_101 ?_
    refine x_istore_n (lv' := [(2, .int (x2 + ((1 : Int32) <<< (x3 &&& 31)))), (0, .ref (σ 0 0)), (1, .int x1), (3, .int x3), (4, .ref (σ 5 q4))]) C dX11_boot_102 rfl (by decide) rfl ?_
    refine x_aload_n C dX11_boot_103 rfl rfl ?_
    refine x_iconst (v := -1) C dX11_boot_104 (by decide) ?_
    obtain ⟨r16, hc17, hf⟩ := bs_bind hf
    obtain ⟨q0, he⟩ := xr_wor σ θ cA (wr (wr (wr Z 5 q4 2 (0 : Int32)) 5 q4 4 (0 : Int32)) 11 0 14 (((wr (wr Z 5 q4 2 (0 : Int32)) 5 q4 4 (0 : Int32)) 11 0 14) + (1 : Int32))) (F ++ [])
    refine x_callVi (y := yX11_choice) (As := [.int (-1 : Int32)]) (rest := []) C (cX11_choice_ok  hc17) ml_X11_133 wyX11_choice he rfl dpX11_choice ⟨Nat.le_of_ble_eq_true rfl, Nat.le_of_ble_eq_true rfl⟩ ⟨by show (cl) + 0 ≤ 2; omega, by show (sl) + (0) ≤ 5 + 1 * B; omega⟩ rfl (Nat.le_of_ble_eq_true rfl) dX11_boot_105 (fun r' X' R' hp => ?_)
    obtain ⟨rfl, rfl, θ, rfl⟩ := hp
    refine x_widen (k := (cl)) (n := (sl)) (by show (cl) + 0 ≤ _; omega) (by show (sl) + (0) ≤ _; omega) ?_
    refine x_istore_n (lv' := [(3, .int r16.1), (2, .int (x2 + ((1 : Int32) <<< (x3 &&& 31)))), (0, .ref (σ 0 0)), (1, .int x1), (4, .ref (σ 5 q4))]) C dX11_boot_108 rfl (by decide) rfl ?_
    refine x_goto (tgt := 8) C dX11_boot_109 (by decide) ?_
    refine x_sub [2, 3, 1, 0] rfl ?_
    exact hk8 _ _ _ _ _ _  _ _  (by omega) (by omega) hf
  · replace hf := bs_pos h19 hf
    refine x_goto (tgt := 112) C dX11_boot_71 (by decide) ?_
    refine x_sub [0, 1, 2, 3] rfl ?_
    exact qX11_boot_112  C  _ _ _ _ _ _  _ _  (by omega) (by omega) hf
set_option maxHeartbeats 4000000 in
set_option maxRecDepth 100000 in
theorem qX11_boot_8 {p : Program} {l : Launch} {e : Env} {s : State} {m : MethodId} {args : Array Value} {below : List Frame} {meth : Method} {c : Code} {ρ : bsR} {sc L : Nat} {xs : Nat → Int32} {cA : Nat → ClassId} {dC : Nat → ClassId} {dI : Nat → Nat → Nat} {A : Nat → Prop} {Ts : List Cond} {σ : xA2} {F : va_W} {B : Nat} {z : (Int32 × bsX × pY)} (C : xCx p m c cX11_boot 5 s args Ts RX11 ρ sc L xs cA dC dI A meth (some .int))  : ∀ (n : Nat), ∀ (x1 : Int32) (x2 : Int32) (x3 : Int32) (X : bsX) (Z : pY) (θ : xA2) (cl sl : Nat), cl + (n * 0 + (2)) ≤ 2 → sl + (n * 0 + (5 + 1 * B)) ≤ 5 + 1 * B → hX11_boot_8 B n x1 x2 x3 X Z = some z → xV p l e (rmX11_boot B) s m args below meth c cl sl (MQ below (xQi ρ cA dC dI A (fun r X' R' => r = z.1 ∧ X' = z.2.1 ∧ ∃ θ' : xA2, R' = lwWs σ θ' cA z.2.2 ++ F)) args s (rmX11_boot B).cells (rmX11_boot B).slots A) ρ cA dC dI A (lwWs σ θ cA Z ++ (F ++ [])) 5 8 [(0, .ref (σ 0 0)), (1, .int x1), (2, .int x2), (3, .int x3)] [] X := by
  intro n
  induction n with
  | zero => intro x1 x2 x3 X Z θ cl sl hcl hsl hf; exact (nomatch hf)
  | succ n ih =>
    intro x1 x2 x3 X Z θ cl sl hcl hsl hf
    rw [hX11_boot_8] at hf
    refine x_iload_n C dX11_boot_8 rfl rfl ?_
    refine x_if_lt (tgt := 112) C dX11_boot_9 (by decide) (fun h9 => ?_) (fun h9 => ?_)
    · replace hf := bs_pos h9 hf
      refine x_sub [0, 1, 2, 3] rfl ?_
      exact qX11_boot_112  C  _ _ _ _ _ _  _ _  (by omega) (by omega) hf
    · replace hf := bs_neg h9 hf
      refine x_aload_n C dX11_boot_12 rfl rfl ?_
      refine xg_X11_66 C dX11_boot_13 ?_
      refine x_iload_n C dX11_boot_16 rfl rfl ?_
      obtain ⟨hg4, hf⟩ := bs_if hf
      refine xa_plc C hg4 dX11_boot_17 ?_
      refine x_astore (lv' := [(4, .ref (σ 5 (bsIx x3))), (0, .ref (σ 0 0)), (1, .int x1), (2, .int x2), (3, .int x3)]) C dX11_boot_18 (by decide) rfl ?_
      refine x_aload C dX11_boot_20 rfl ?_
      refine xg_X11_93 C (bsIx_lt hg4) dX11_boot_22 ?_
      refine x_if_ne (tgt := 61) C dX11_boot_25 (by decide) (fun h8 => ?_) (fun h8 => ?_)
      · replace hf := bs_neg h8 hf
        refine x_sub [1, 2, 3, 4, 0] rfl ?_
        exact qX11_boot_61 (hX11_boot_8 B  n) C ih ⟨by omega, by omega⟩ _ _ _ _ _ _ _  _ _ (bsIx_lt hg4) (by omega) (by omega) hf
      · replace hf := bs_pos h8 hf
        refine x_aload C dX11_boot_28 rfl ?_
        refine x_dup C dX11_boot_30 rfl ?_
        refine xg_X11_82 C (bsIx_lt hg4) dX11_boot_31 ?_
        refine x_iconst (v := 1) C dX11_boot_34 (by decide) ?_
        refine x_isub C dX11_boot_35 ?_
        refine xp_X11_82 C (bsIx_lt hg4) dX11_boot_36 ?_
        refine x_aload C dX11_boot_39 rfl ?_
        refine x_dup C dX11_boot_41 rfl ?_
        refine xg_X11_136 C (ln_lt (bsIx_lt hg4) (by omega)) dX11_boot_42 ?_
        refine x_iconst (v := 1) C dX11_boot_45 (by decide) ?_
        refine x_iadd C dX11_boot_46 ?_
        refine xp_X11_136 C (ln_lt (bsIx_lt hg4) (by omega)) dX11_boot_47 ?_
        refine x_aload_n C dX11_boot_50 rfl rfl ?_
        refine xg_X11_13 C dX11_boot_51 ?_
        refine x_bipush (v := 13) C dX11_boot_54 (by decide) ?_
        refine x_dup2 C dX11_boot_56 rfl rfl ?_
        refine xl_cnt C (by decide) dX11_boot_57 ?_
        refine x_iconst (v := 1) C dX11_boot_58 (by decide) ?_
        refine x_iadd C dX11_boot_59 ?_
        refine xs_cnt C (by decide) dX11_boot_60 ?_
        refine x_sub [1, 2, 3, 4, 0] rfl ?_
        exact qX11_boot_61 (hX11_boot_8 B  n) C ih ⟨by omega, by omega⟩ _ _ _ _ _ _ _  _ _ (ln_lt (ln_lt (ln_lt (bsIx_lt hg4) (by omega)) (by omega)) (by omega)) (by omega) (by omega) hf
set_option maxHeartbeats 4000000 in
set_option maxRecDepth 100000 in
theorem cX11_boot_ok {l : Launch} {ρ : bsR} {sc L : Nat} {xs : Nat → Int32} {cA : Nat → ClassId} {dC : Nat → ClassId} {dI : Nat → Nat → Nat} {σ θ : xA2} {F : va_W} {B : Nat} {a1 : Int32} {X : bsX} {Z : pY} {z : (Int32 × bsX × pY)} (hf : hX11_boot B a1 X Z = some z) : xMi l yX11_boot cX11_boot 5 (some .int) (rmX11_boot B) ρ sc L xs cA dC dI [.ref (σ 0 0), .int a1] X (lwWs σ θ cA Z ++ F) (fun r X' R' => r = z.1 ∧ X' = z.2.1 ∧ ∃ θ' : xA2, R' = lwWs σ θ' cA z.2.2 ++ F) := by
  refine xMi_of (by decide) (Nat.le_of_ble_eq_true rfl) (fun p e s m args below meth c C => ?_)
  have C : xCx p m c cX11_boot 5 s args (Cond.code yX11_boot cX11_boot 5 (some .int) :: bsG) RX11 ρ sc L xs cA dC dI (bsA ρ cA (lwWs σ θ cA Z ++ F) s.heap.size) meth (some .int) := C
  rw [hX11_boot] at hf
  generalize (bsA ρ cA (lwWs σ θ cA Z ++ F) s.heap.size) = A at C ⊢
  refine x_sub [0, 1] rfl ?_
  refine xu_none ?_
  refine x_iconst (v := 0) C dX11_boot_0 (by decide) ?_
  refine x_istore_n (lv' := [(2, .int (0 : Int32)), (0, .ref (σ 0 0)), (1, .int a1)]) C dX11_boot_1 rfl (by decide) rfl ?_
  refine x_aload_n C dX11_boot_2 rfl rfl ?_
  refine x_iconst (v := -1) C dX11_boot_3 (by decide) ?_
  obtain ⟨r20, hc21, hf⟩ := bs_bind hf
  obtain ⟨q0, he⟩ := xr_wor σ θ cA Z (F ++ [])
  refine x_callVi (y := yX11_choice) (As := [.int (-1 : Int32)]) (rest := []) C (cX11_choice_ok  hc21) ml_X11_133 wyX11_choice he rfl dpX11_choice ⟨Nat.le_of_ble_eq_true rfl, Nat.le_of_ble_eq_true rfl⟩ ⟨by show (0) + 0 ≤ 2; omega, by show (0) + (0) ≤ 5 + 1 * B; omega⟩ rfl (Nat.le_of_ble_eq_true rfl) dX11_boot_4 (fun r' X' R' hp => ?_)
  obtain ⟨rfl, rfl, θ, rfl⟩ := hp
  refine x_widen (k := (0)) (n := (0)) (by show (0) + 0 ≤ _; omega) (by show (0) + (0) ≤ _; omega) ?_
  refine x_istore_n (lv' := [(3, .int r20.1), (2, .int (0 : Int32)), (0, .ref (σ 0 0)), (1, .int a1)]) C dX11_boot_7 rfl (by decide) rfl ?_
  refine x_sub [2, 3, 1, 0] rfl ?_
  exact qX11_boot_8  C  8 _ _ _ _ _ _  _ _  (by show _ + (0 + _) ≤ _; omega) (by show _ + (0 + _) ≤ _; omega) hf
/-! BootSlotsLaw$World.goes()V -/
def hX11_goes_90 (B : Nat) (X : bsX) (Z : pY) : Option (Int32 × bsX × pY) := (hX11_boot B (2 : Int32) X Z).bind fun r6 => some ((0 : Int32), r6.2.1, r6.2.2)
def hX11_goes_145 (B : Nat) (q1 : Nat) (X : bsX) (Z : pY) : Option (Int32 × bsX × pY) := (hX11_floorWith  ((wr (wr Z 5 q1 4 (1 : Int32)) 5 q1 5 (0 : Int32)) 0 0 11) X (wr (wr Z 5 q1 4 (1 : Int32)) 5 q1 5 (0 : Int32))).bind fun r3 => some ((0 : Int32), r3.2.1, (wr r3.2.2 0 0 8 r3.1))
def hX11_goes (B : Nat) (X : bsX) (Z : pY) : Option (Int32 × bsX × pY) := if bsIn (Z 0 0 11) (ln Z) then (if ((wr Z 0 0 12 ((Z 0 0 12) + (1 : Int32))) 0 0 12) = ((wr Z 0 0 12 ((Z 0 0 12) + (1 : Int32))) 6 (bsIx (Z 0 0 11)) 3) then (if ((wr (wr (wr Z 0 0 12 ((Z 0 0 12) + (1 : Int32))) 11 0 15 (((wr Z 0 0 12 ((Z 0 0 12) + (1 : Int32))) 11 0 15) + (1 : Int32))) 5 (bsIx (Z 0 0 11)) 5 (((wr (wr Z 0 0 12 ((Z 0 0 12) + (1 : Int32))) 11 0 15 (((wr Z 0 0 12 ((Z 0 0 12) + (1 : Int32))) 11 0 15) + (1 : Int32))) 5 (bsIx (Z 0 0 11)) 5) + (1 : Int32))) 5 (bsIx (Z 0 0 11)) 4) = 0 then (hX11_goes_90 B   X (wr (wr (wr Z 0 0 12 ((Z 0 0 12) + (1 : Int32))) 11 0 15 (((wr Z 0 0 12 ((Z 0 0 12) + (1 : Int32))) 11 0 15) + (1 : Int32))) 5 (bsIx (Z 0 0 11)) 5 (((wr (wr Z 0 0 12 ((Z 0 0 12) + (1 : Int32))) 11 0 15 (((wr Z 0 0 12 ((Z 0 0 12) + (1 : Int32))) 11 0 15) + (1 : Int32))) 5 (bsIx (Z 0 0 11)) 5) + (1 : Int32)))) else (if ((wr (wr (wr Z 0 0 12 ((Z 0 0 12) + (1 : Int32))) 11 0 15 (((wr Z 0 0 12 ((Z 0 0 12) + (1 : Int32))) 11 0 15) + (1 : Int32))) 5 (bsIx (Z 0 0 11)) 5 (((wr (wr Z 0 0 12 ((Z 0 0 12) + (1 : Int32))) 11 0 15 (((wr Z 0 0 12 ((Z 0 0 12) + (1 : Int32))) 11 0 15) + (1 : Int32))) 5 (bsIx (Z 0 0 11)) 5) + (1 : Int32))) 5 (bsIx (Z 0 0 11)) 5) < ((wr (wr (wr Z 0 0 12 ((Z 0 0 12) + (1 : Int32))) 11 0 15 (((wr Z 0 0 12 ((Z 0 0 12) + (1 : Int32))) 11 0 15) + (1 : Int32))) 5 (bsIx (Z 0 0 11)) 5 (((wr (wr Z 0 0 12 ((Z 0 0 12) + (1 : Int32))) 11 0 15 (((wr Z 0 0 12 ((Z 0 0 12) + (1 : Int32))) 11 0 15) + (1 : Int32))) 5 (bsIx (Z 0 0 11)) 5) + (1 : Int32))) 0 0 6) then (hX11_goes_90 B   X (wr (wr (wr Z 0 0 12 ((Z 0 0 12) + (1 : Int32))) 11 0 15 (((wr Z 0 0 12 ((Z 0 0 12) + (1 : Int32))) 11 0 15) + (1 : Int32))) 5 (bsIx (Z 0 0 11)) 5 (((wr (wr Z 0 0 12 ((Z 0 0 12) + (1 : Int32))) 11 0 15 (((wr Z 0 0 12 ((Z 0 0 12) + (1 : Int32))) 11 0 15) + (1 : Int32))) 5 (bsIx (Z 0 0 11)) 5) + (1 : Int32)))) else (hX11_goes_90 B   X (wr (wr (wr (wr (wr (wr Z 0 0 12 ((Z 0 0 12) + (1 : Int32))) 11 0 15 (((wr Z 0 0 12 ((Z 0 0 12) + (1 : Int32))) 11 0 15) + (1 : Int32))) 5 (bsIx (Z 0 0 11)) 5 (((wr (wr Z 0 0 12 ((Z 0 0 12) + (1 : Int32))) 11 0 15 (((wr Z 0 0 12 ((Z 0 0 12) + (1 : Int32))) 11 0 15) + (1 : Int32))) 5 (bsIx (Z 0 0 11)) 5) + (1 : Int32))) 5 (bsIx (Z 0 0 11)) 4 (0 : Int32)) 5 (bsIx (Z 0 0 11)) 3 ((wr (wr (wr (wr Z 0 0 12 ((Z 0 0 12) + (1 : Int32))) 11 0 15 (((wr Z 0 0 12 ((Z 0 0 12) + (1 : Int32))) 11 0 15) + (1 : Int32))) 5 (bsIx (Z 0 0 11)) 5 (((wr (wr Z 0 0 12 ((Z 0 0 12) + (1 : Int32))) 11 0 15 (((wr Z 0 0 12 ((Z 0 0 12) + (1 : Int32))) 11 0 15) + (1 : Int32))) 5 (bsIx (Z 0 0 11)) 5) + (1 : Int32))) 5 (bsIx (Z 0 0 11)) 4 (0 : Int32)) 0 0 7)) 5 (bsIx (Z 0 0 11)) 5 (0 : Int32))))) else (if ((wr Z 0 0 12 ((Z 0 0 12) + (1 : Int32))) 0 0 12) = ((wr Z 0 0 12 ((Z 0 0 12) + (1 : Int32))) 6 (bsIx (Z 0 0 11)) 2) then (if ((wr Z 0 0 12 ((Z 0 0 12) + (1 : Int32))) 5 (bsIx (Z 0 0 11)) 4) = 0 then (hX11_goes_145 B  (bsIx (Z 0 0 11)) X (wr (wr (wr (wr Z 0 0 12 ((Z 0 0 12) + (1 : Int32))) 5 (bsIx (Z 0 0 11)) 3 (0 : Int32)) 5 (bsIx (Z 0 0 11)) 8 (((wr (wr Z 0 0 12 ((Z 0 0 12) + (1 : Int32))) 5 (bsIx (Z 0 0 11)) 3 (0 : Int32)) 5 (bsIx (Z 0 0 11)) 8) + (1 : Int32))) 11 0 17 (((wr (wr (wr Z 0 0 12 ((Z 0 0 12) + (1 : Int32))) 5 (bsIx (Z 0 0 11)) 3 (0 : Int32)) 5 (bsIx (Z 0 0 11)) 8 (((wr (wr Z 0 0 12 ((Z 0 0 12) + (1 : Int32))) 5 (bsIx (Z 0 0 11)) 3 (0 : Int32)) 5 (bsIx (Z 0 0 11)) 8) + (1 : Int32))) 11 0 17) + (1 : Int32)))) else (hX11_goes_145 B  (bsIx (Z 0 0 11)) X (wr Z 0 0 12 ((Z 0 0 12) + (1 : Int32))))) else (if ((wr Z 0 0 12 ((Z 0 0 12) + (1 : Int32))) 0 0 12) = ((wr Z 0 0 12 ((Z 0 0 12) + (1 : Int32))) 0 0 5) then (if ((wr Z 0 0 12 ((Z 0 0 12) + (1 : Int32))) 5 (bsIx (Z 0 0 11)) 4) = 0 then ((hX11_boot B (3 : Int32) X (wr (wr Z 0 0 12 ((Z 0 0 12) + (1 : Int32))) 11 0 16 (((wr Z 0 0 12 ((Z 0 0 12) + (1 : Int32))) 11 0 16) + (1 : Int32)))).bind fun r12 => some ((0 : Int32), r12.2.1, r12.2.2)) else (some ((0 : Int32), X, (wr Z 0 0 12 ((Z 0 0 12) + (1 : Int32)))))) else (some ((0 : Int32), X, (wr Z 0 0 12 ((Z 0 0 12) + (1 : Int32)))))))) else none
abbrev rmX11_goes (B : Nat) : Room := { frames := 4, cells := 2, slots := 5 + 1 * B, locals := 324 }
set_option maxHeartbeats 4000000 in
set_option maxRecDepth 100000 in
theorem qX11_goes_90 {p : Program} {l : Launch} {e : Env} {s : State} {m : MethodId} {args : Array Value} {below : List Frame} {meth : Method} {c : Code} {ρ : bsR} {sc L : Nat} {xs : Nat → Int32} {cA : Nat → ClassId} {dC : Nat → ClassId} {dI : Nat → Nat → Nat} {A : Nat → Prop} {Ts : List Cond} {σ : xA2} {F : va_W} {B : Nat} {z : (Int32 × bsX × pY)} (C : xCx p m c cX11_goes 3 s args Ts RX11 ρ sc L xs cA dC dI A meth none)  : ∀ (X : bsX) (Z : pY) (θ : xA2) (cl sl : Nat), cl + ((2)) ≤ 2 → sl + ((5 + 1 * B)) ≤ 5 + 1 * B → hX11_goes_90 B X Z = some z → xV p l e (rmX11_goes B) s m args below meth c cl sl (MQ below (xQv ρ cA dC dI A (fun X' R' => X' = z.2.1 ∧ ∃ θ' : xA2, R' = lwWs σ θ' cA z.2.2 ++ F)) args s (rmX11_goes B).cells (rmX11_goes B).slots A) ρ cA dC dI A (lwWs σ θ cA Z ++ (F ++ [])) 3 90 [(0, .ref (σ 0 0))] [] X := by
  intro X Z θ cl sl hcl hsl hf
  rw [hX11_goes_90] at hf
  refine x_aload_n C dX11_goes_90 rfl rfl ?_
  refine x_iconst (v := 2) C dX11_goes_91 (by decide) ?_
  obtain ⟨r6, hc7, hf⟩ := bs_bind hf
  obtain ⟨q0, he⟩ := xr_wor σ θ cA Z (F ++ [])
  refine x_callVi (y := yX11_boot) (As := [.int (2 : Int32)]) (rest := []) C (cX11_boot_ok (B := B)  hc7) ml_X11_159 wyX11_boot he rfl dpX11_boot ⟨Nat.le_of_ble_eq_true rfl, Nat.le_of_ble_eq_true rfl⟩ ⟨by show (cl) + 2 ≤ 2; omega, by show (sl) + (5 + 1 * B) ≤ 5 + 1 * B; omega⟩ rfl (Nat.le_of_ble_eq_true rfl) dX11_goes_92 (fun r' X' R' hp => ?_)
  obtain ⟨rfl, rfl, θ, rfl⟩ := hp
  refine x_widen (k := (cl + 2)) (n := (sl + 5 + 1 * B)) (by show (cl) + 2 ≤ _; omega) (by show (sl) + (5 + 1 * B) ≤ _; omega) ?_
  refine x_istore_n (lv' := [(2, .int r6.1), (0, .ref (σ 0 0))]) C dX11_goes_95 rfl (by decide) rfl ?_
  refine x_goto (tgt := 205) C dX11_goes_96 (by decide) ?_
  obtain rfl := Option.some.inj hf
  refine xu_dropall ?_
  exact x_vret C ⟨rfl, _, rfl⟩ (by show _ ≤ 2; omega) (by show _ ≤ 5 + 1 * B; omega) dX11_goes_205
set_option maxHeartbeats 4000000 in
set_option maxRecDepth 100000 in
theorem qX11_goes_145 {p : Program} {l : Launch} {e : Env} {s : State} {m : MethodId} {args : Array Value} {below : List Frame} {meth : Method} {c : Code} {ρ : bsR} {sc L : Nat} {xs : Nat → Int32} {cA : Nat → ClassId} {dC : Nat → ClassId} {dI : Nat → Nat → Nat} {A : Nat → Prop} {Ts : List Cond} {σ : xA2} {F : va_W} {B : Nat} {z : (Int32 × bsX × pY)} (C : xCx p m c cX11_goes 3 s args Ts RX11 ρ sc L xs cA dC dI A meth none)  : ∀ (q1 : Nat) (X : bsX) (Z : pY) (θ : xA2) (cl sl : Nat), q1 < ln Z → cl + ((0)) ≤ 2 → sl + ((0)) ≤ 5 + 1 * B → hX11_goes_145 B q1 X Z = some z → xV p l e (rmX11_goes B) s m args below meth c cl sl (MQ below (xQv ρ cA dC dI A (fun X' R' => X' = z.2.1 ∧ ∃ θ' : xA2, R' = lwWs σ θ' cA z.2.2 ++ F)) args s (rmX11_goes B).cells (rmX11_goes B).slots A) ρ cA dC dI A (lwWs σ θ cA Z ++ (F ++ [])) 3 145 [(0, .ref (σ 0 0)), (1, .ref (σ 5 q1))] [] X := by
  intro q1 X Z θ cl sl hq1 hcl hsl hf
  rw [hX11_goes_145] at hf
  refine x_aload_n C dX11_goes_145 rfl rfl ?_
  refine x_iconst (v := 1) C dX11_goes_146 (by decide) ?_
  refine xp_X11_93 C hq1 (by decide) dX11_goes_147 ?_
  refine x_aload_n C dX11_goes_150 rfl rfl ?_
  refine x_iconst (v := 0) C dX11_goes_151 (by decide) ?_
  refine xp_X11_156 C (ln_lt hq1 (by omega)) dX11_goes_152 ?_
  refine x_aload_n C dX11_goes_155 rfl rfl ?_
  refine x_aload_n C dX11_goes_156 rfl rfl ?_
  refine x_aload_n C dX11_goes_157 rfl rfl ?_
  refine xg_X11_7 C dX11_goes_158 ?_
  obtain ⟨r3, hc4, hf⟩ := bs_bind hf
  obtain ⟨q0, he⟩ := xr_wor σ θ cA (wr (wr Z 5 q1 4 (1 : Int32)) 5 q1 5 (0 : Int32)) (F ++ [])
  refine x_callVi (y := yX11_floorWith) (As := [.int ((wr (wr Z 5 q1 4 (1 : Int32)) 5 q1 5 (0 : Int32)) 0 0 11)]) (rest := [.ref (σ 0 0)]) C (cX11_floorWith_ok  hc4) ml_X11_165 wyX11_floorWith he rfl dpX11_floorWith ⟨Nat.le_of_ble_eq_true rfl, Nat.le_of_ble_eq_true rfl⟩ ⟨by show (cl) + 0 ≤ 2; omega, by show (sl) + (0) ≤ 5 + 1 * B; omega⟩ rfl (Nat.le_of_ble_eq_true rfl) dX11_goes_161 (fun r' X' R' hp => ?_)
  obtain ⟨rfl, rfl, θ, rfl⟩ := hp
  refine x_widen (k := (cl)) (n := (sl)) (by show (cl) + 0 ≤ _; omega) (by show (sl) + (0) ≤ _; omega) ?_
  refine xp_X11_43 C dX11_goes_164 ?_
  refine x_goto (tgt := 205) C dX11_goes_167 (by decide) ?_
  obtain rfl := Option.some.inj hf
  refine xu_dropall ?_
  exact x_vret C ⟨rfl, _, rfl⟩ (by show _ ≤ 2; omega) (by show _ ≤ 5 + 1 * B; omega) dX11_goes_205
set_option maxHeartbeats 4000000 in
set_option maxRecDepth 100000 in
theorem cX11_goes_ok {l : Launch} {ρ : bsR} {sc L : Nat} {xs : Nat → Int32} {cA : Nat → ClassId} {dC : Nat → ClassId} {dI : Nat → Nat → Nat} {σ θ : xA2} {F : va_W} {B : Nat} {X : bsX} {Z : pY} {z : (Int32 × bsX × pY)} (hf : hX11_goes B X Z = some z) : xMv l yX11_goes cX11_goes 3 none (rmX11_goes B) ρ sc L xs cA dC dI [.ref (σ 0 0)] X (lwWs σ θ cA Z ++ F) (fun X' R' => X' = z.2.1 ∧ ∃ θ' : xA2, R' = lwWs σ θ' cA z.2.2 ++ F) := by
  refine xMv_of (by decide) (Nat.le_of_ble_eq_true rfl) (fun p e s m args below meth c C => ?_)
  have C : xCx p m c cX11_goes 3 s args (Cond.code yX11_goes cX11_goes 3 none :: bsG) RX11 ρ sc L xs cA dC dI (bsA ρ cA (lwWs σ θ cA Z ++ F) s.heap.size) meth none := C
  rw [hX11_goes] at hf
  generalize (bsA ρ cA (lwWs σ θ cA Z ++ F) s.heap.size) = A at C ⊢
  refine x_sub [0] rfl ?_
  refine xu_none ?_
  refine x_aload_n C dX11_goes_0 rfl rfl ?_
  refine xg_X11_66 C dX11_goes_1 ?_
  refine x_aload_n C dX11_goes_4 rfl rfl ?_
  refine xg_X11_7 C dX11_goes_5 ?_
  obtain ⟨hg9, hf⟩ := bs_if hf
  refine xa_plc C hg9 dX11_goes_8 ?_
  refine x_astore_n (lv' := [(1, .ref (σ 5 (bsIx (Z 0 0 11)))), (0, .ref (σ 0 0))]) C dX11_goes_9 rfl (by decide) rfl ?_
  refine x_aload_n C dX11_goes_10 rfl rfl ?_
  refine x_dup C dX11_goes_11 rfl ?_
  refine xg_X11_108 C dX11_goes_12 ?_
  refine x_iconst (v := 1) C dX11_goes_15 (by decide) ?_
  refine x_iadd C dX11_goes_16 ?_
  refine xp_X11_108 C dX11_goes_17 ?_
  refine x_aload_n C dX11_goes_20 rfl rfl ?_
  refine xg_X11_108 C dX11_goes_21 ?_
  refine x_aload_n C dX11_goes_24 rfl rfl ?_
  refine xg_X11_76 C (ln_lt (bsIx_lt hg9) (by omega)) dX11_goes_25 ?_
  refine x_iconst (v := 2) C dX11_goes_28 (by decide) ?_
  refine xl_img C (ln_lt (bsIx_lt hg9) (by omega)) (by decide) dX11_goes_29 ?_
  refine x_icmp_ne (tgt := 99) C dX11_goes_30 (by decide) (fun h29 => ?_) (fun h29 => ?_)
  · replace hf := bs_neg h29 hf
    refine x_aload_n C dX11_goes_99 rfl rfl ?_
    refine xg_X11_108 C dX11_goes_100 ?_
    refine x_aload_n C dX11_goes_103 rfl rfl ?_
    refine xg_X11_76 C (ln_lt (bsIx_lt hg9) (by omega)) dX11_goes_104 ?_
    refine x_iconst (v := 1) C dX11_goes_107 (by decide) ?_
    refine xl_img C (ln_lt (bsIx_lt hg9) (by omega)) (by decide) dX11_goes_108 ?_
    refine x_icmp_ne (tgt := 170) C dX11_goes_109 (by decide) (fun h21 => ?_) (fun h21 => ?_)
    · replace hf := bs_neg h21 hf
      refine x_aload_n C dX11_goes_170 rfl rfl ?_
      refine xg_X11_108 C dX11_goes_171 ?_
      refine x_aload_n C dX11_goes_174 rfl rfl ?_
      refine xg_X11_34 C dX11_goes_175 ?_
      refine x_icmp_ne (tgt := 205) C dX11_goes_178 (by decide) (fun h16 => ?_) (fun h16 => ?_)
      · replace hf := bs_neg h16 hf
        obtain rfl := Option.some.inj hf
        refine xu_dropall ?_
        exact x_vret C ⟨rfl, _, rfl⟩ (by show _ ≤ 2; omega) (by show _ ≤ 5 + 1 * B; omega) dX11_goes_205
      · replace hf := bs_pos h16 hf
        refine x_aload_n C dX11_goes_181 rfl rfl ?_
        refine xg_X11_93 C (ln_lt (bsIx_lt hg9) (by omega)) dX11_goes_182 ?_
        refine x_if_ne (tgt := 205) C dX11_goes_185 (by decide) (fun h15 => ?_) (fun h15 => ?_)
        · replace hf := bs_neg h15 hf
          obtain rfl := Option.some.inj hf
          refine xu_dropall ?_
          exact x_vret C ⟨rfl, _, rfl⟩ (by show _ ≤ 2; omega) (by show _ ≤ 5 + 1 * B; omega) dX11_goes_205
        · replace hf := bs_pos h15 hf
          refine x_aload_n C dX11_goes_188 rfl rfl ?_
          refine xg_X11_13 C dX11_goes_189 ?_
          refine x_bipush (v := 16) C dX11_goes_192 (by decide) ?_
          refine x_dup2 C dX11_goes_194 rfl rfl ?_
          refine xl_cnt C (by decide) dX11_goes_195 ?_
          refine x_iconst (v := 1) C dX11_goes_196 (by decide) ?_
          refine x_iadd C dX11_goes_197 ?_
          refine xs_cnt C (by decide) dX11_goes_198 ?_
          refine x_aload_n C dX11_goes_199 rfl rfl ?_
          refine x_iconst (v := 3) C dX11_goes_200 (by decide) ?_
          obtain ⟨r12, hc13, hf⟩ := bs_bind hf
          obtain ⟨q0, he⟩ := xr_wor σ θ cA (wr (wr Z 0 0 12 ((Z 0 0 12) + (1 : Int32))) 11 0 16 (((wr Z 0 0 12 ((Z 0 0 12) + (1 : Int32))) 11 0 16) + (1 : Int32))) (F ++ [])
          refine x_callVi (y := yX11_boot) (As := [.int (3 : Int32)]) (rest := []) C (cX11_boot_ok (B := B)  hc13) ml_X11_159 wyX11_boot he rfl dpX11_boot ⟨Nat.le_of_ble_eq_true rfl, Nat.le_of_ble_eq_true rfl⟩ ⟨by show (0) + 2 ≤ 2; omega, by show (0) + (5 + 1 * B) ≤ 5 + 1 * B; omega⟩ rfl (Nat.le_of_ble_eq_true rfl) dX11_goes_201 (fun r' X' R' hp => ?_)
          obtain ⟨rfl, rfl, θ, rfl⟩ := hp
          refine x_widen (k := (2)) (n := (5 + 1 * B)) (by show (0) + 2 ≤ _; omega) (by show (0) + (5 + 1 * B) ≤ _; omega) ?_
          refine x_istore_n (lv' := [(2, .int r12.1), (1, .ref (σ 5 (bsIx (Z 0 0 11)))), (0, .ref (σ 0 0))]) C dX11_goes_204 rfl (by decide) rfl ?_
          obtain rfl := Option.some.inj hf
          refine xu_dropall ?_
          exact x_vret C ⟨rfl, _, rfl⟩ (by show _ ≤ 2; omega) (by show _ ≤ 5 + 1 * B; omega) dX11_goes_205
    · replace hf := bs_pos h21 hf
      refine x_aload_n C dX11_goes_112 rfl rfl ?_
      refine xg_X11_93 C (ln_lt (bsIx_lt hg9) (by omega)) dX11_goes_113 ?_
      refine x_if_ne (tgt := 145) C dX11_goes_116 (by decide) (fun h20 => ?_) (fun h20 => ?_)
      · replace hf := bs_neg h20 hf
        refine x_sub [1, 0] rfl ?_
        exact qX11_goes_145  C  _ _ _ _  _ _ (ln_lt (bsIx_lt hg9) (by omega)) (by omega) (by omega) hf
      · replace hf := bs_pos h20 hf
        refine x_aload_n C dX11_goes_119 rfl rfl ?_
        refine x_iconst (v := 0) C dX11_goes_120 (by decide) ?_
        refine xp_X11_82 C (ln_lt (bsIx_lt hg9) (by omega)) dX11_goes_121 ?_
        refine x_aload_n C dX11_goes_124 rfl rfl ?_
        refine x_dup C dX11_goes_125 rfl ?_
        refine xg_X11_162 C (ln_lt (ln_lt (bsIx_lt hg9) (by omega)) (by omega)) dX11_goes_126 ?_
        refine x_iconst (v := 1) C dX11_goes_129 (by decide) ?_
        refine x_iadd C dX11_goes_130 ?_
        refine xp_X11_162 C (ln_lt (ln_lt (bsIx_lt hg9) (by omega)) (by omega)) dX11_goes_131 ?_
        refine x_aload_n C dX11_goes_134 rfl rfl ?_
        refine xg_X11_13 C dX11_goes_135 ?_
        refine x_bipush (v := 17) C dX11_goes_138 (by decide) ?_
        refine x_dup2 C dX11_goes_140 rfl rfl ?_
        refine xl_cnt C (by decide) dX11_goes_141 ?_
        refine x_iconst (v := 1) C dX11_goes_142 (by decide) ?_
        refine x_iadd C dX11_goes_143 ?_
        refine xs_cnt C (by decide) dX11_goes_144 ?_
        refine x_sub [1, 0] rfl ?_
        exact qX11_goes_145  C  _ _ _ _  _ _ (ln_lt (ln_lt (ln_lt (ln_lt (bsIx_lt hg9) (by omega)) (by omega)) (by omega)) (by omega)) (by omega) (by omega) hf
  · replace hf := bs_pos h29 hf
    refine x_aload_n C dX11_goes_33 rfl rfl ?_
    refine xg_X11_13 C dX11_goes_34 ?_
    refine x_bipush (v := 15) C dX11_goes_37 (by decide) ?_
    refine x_dup2 C dX11_goes_39 rfl rfl ?_
    refine xl_cnt C (by decide) dX11_goes_40 ?_
    refine x_iconst (v := 1) C dX11_goes_41 (by decide) ?_
    refine x_iadd C dX11_goes_42 ?_
    refine xs_cnt C (by decide) dX11_goes_43 ?_
    refine x_aload_n C dX11_goes_44 rfl rfl ?_
    refine x_dup C dX11_goes_45 rfl ?_
    refine xg_X11_156 C (ln_lt (ln_lt (bsIx_lt hg9) (by omega)) (by omega)) dX11_goes_46 ?_
    refine x_iconst (v := 1) C dX11_goes_49 (by decide) ?_
    refine x_iadd C dX11_goes_50 ?_
    refine xp_X11_156 C (ln_lt (ln_lt (bsIx_lt hg9) (by omega)) (by omega)) dX11_goes_51 ?_
    refine x_aload_n C dX11_goes_54 rfl rfl ?_
    refine xg_X11_93 C (ln_lt (ln_lt (ln_lt (bsIx_lt hg9) (by omega)) (by omega)) (by omega)) dX11_goes_55 ?_
    refine x_if_eq (tgt := 90) C dX11_goes_58 (by decide) (fun h28 => ?_) (fun h28 => ?_)
    · replace hf := bs_pos h28 hf
      refine x_sub [1] rfl ?_
      exact qX11_goes_90  C   _ _ _  _ _  (by omega) (by omega) hf
    · replace hf := bs_neg h28 hf
      refine x_aload_n C dX11_goes_61 rfl rfl ?_
      refine xg_X11_156 C (ln_lt (ln_lt (ln_lt (bsIx_lt hg9) (by omega)) (by omega)) (by omega)) dX11_goes_62 ?_
      refine x_aload_n C dX11_goes_65 rfl rfl ?_
      refine xg_X11_37 C dX11_goes_66 ?_
      refine x_icmp_lt (tgt := 90) C dX11_goes_69 (by decide) (fun h27 => ?_) (fun h27 => ?_)
      · replace hf := bs_pos h27 hf
        refine x_sub [1] rfl ?_
        exact qX11_goes_90  C   _ _ _  _ _  (by omega) (by omega) hf
      · replace hf := bs_neg h27 hf
        refine x_aload_n C dX11_goes_72 rfl rfl ?_
        refine x_iconst (v := 0) C dX11_goes_73 (by decide) ?_
        refine xp_X11_93 C (ln_lt (ln_lt (ln_lt (bsIx_lt hg9) (by omega)) (by omega)) (by omega)) (by decide) dX11_goes_74 ?_
        refine x_aload_n C dX11_goes_77 rfl rfl ?_
        refine x_aload_n C dX11_goes_78 rfl rfl ?_
        refine xg_X11_40 C dX11_goes_79 ?_
        refine xp_X11_82 C (ln_lt (ln_lt (ln_lt (ln_lt (bsIx_lt hg9) (by omega)) (by omega)) (by omega)) (by omega)) dX11_goes_82 ?_
        refine x_aload_n C dX11_goes_85 rfl rfl ?_
        refine x_iconst (v := 0) C dX11_goes_86 (by decide) ?_
        refine xp_X11_156 C (ln_lt (ln_lt (ln_lt (ln_lt (ln_lt (bsIx_lt hg9) (by omega)) (by omega)) (by omega)) (by omega)) (by omega)) dX11_goes_87 ?_
        refine x_sub [1] rfl ?_
        exact qX11_goes_90  C   _ _ _  _ _  (by omega) (by omega) hf
/-! BootSlotsLaw$World.tick()LBootSlotsLaw$World; -/
def hX11_tick_59 (B : Nat) (X : bsX) (Z : pY) : Option (Int32 × bsX × pY) := some ((0 : Int32), X, Z)
def hX11_tick_123 (B : Nat) (X : bsX) (Z : pY) : Option (Int32 × bsX × pY) := some ((0 : Int32), X, Z)
def hX11_tick_45 (B : Nat) (X : bsX) (Z : pY) : Option (Int32 × bsX × pY) := if (Z 0 0 10) = 0 then (hX11_tick_59 B   X Z) else (if 0 ≤ (Z 2 0 1) then (if ((wr Z 2 0 2 ((Z 2 0 2) - (1 : Int32))) 2 0 2) ≤ 0 then ((hX11_comes  ((wr Z 2 0 2 ((Z 2 0 2) - (1 : Int32))) 2 0 1) (3 : Int32) X (wr Z 2 0 2 ((Z 2 0 2) - (1 : Int32)))).bind fun r1 => if ((wr (wr r1.2.2 2 0 1 (-1 : Int32)) 11 0 19 (((wr r1.2.2 2 0 1 (-1 : Int32)) 11 0 19) + (1 : Int32))) 0 0 10) = (2 : Int32) then ((hX11_boot B (4 : Int32) r1.2.1 (wr (wr r1.2.2 2 0 1 (-1 : Int32)) 11 0 19 (((wr r1.2.2 2 0 1 (-1 : Int32)) 11 0 19) + (1 : Int32)))).bind fun r4 => hX11_tick_123 B   r4.2.1 r4.2.2) else (hX11_tick_123 B   r1.2.1 (wr (wr r1.2.2 2 0 1 (-1 : Int32)) 11 0 19 (((wr r1.2.2 2 0 1 (-1 : Int32)) 11 0 19) + (1 : Int32))))) else (some ((0 : Int32), X, (wr Z 2 0 2 ((Z 2 0 2) - (1 : Int32)))))) else (hX11_tick_59 B   X Z))
def hX11_tick_31 (B : Nat) (y1 : Int32) (y2 : Int32) (y3 : Int32) (X : bsX) (Z : pY) : Option (Int32 × bsX × pY) := if bsIn y1 20 then (if ((wr Z 11 0 (bsIx y1) (y2 + y3)) 0 0 10) = (1 : Int32) then ((hX11_goes B  X (wr Z 11 0 (bsIx y1) (y2 + y3))).bind fun r12 => hX11_tick_45 B   r12.2.1 r12.2.2) else (hX11_tick_45 B   X (wr Z 11 0 (bsIx y1) (y2 + y3)))) else none
def hX11_tick (B : Nat) (X : bsX) (Z : pY) : Option (Int32 × bsX × pY) := if ((wr Z 0 0 9 ((Z 0 0 9) + (1 : Int32))) 0 0 10) = (2 : Int32) then (hX11_tick_31 B  (18 : Int32) ((wr Z 0 0 9 ((Z 0 0 9) + (1 : Int32))) 11 0 18) (1 : Int32) X (wr Z 0 0 9 ((Z 0 0 9) + (1 : Int32)))) else (hX11_tick_31 B  (18 : Int32) ((wr Z 0 0 9 ((Z 0 0 9) + (1 : Int32))) 11 0 18) (0 : Int32) X (wr Z 0 0 9 ((Z 0 0 9) + (1 : Int32))))
abbrev rmX11_tick (B : Nat) : Room := { frames := 5, cells := 6, slots := 20 + 2 * B, locals := 346 }
set_option maxHeartbeats 4000000 in
set_option maxRecDepth 100000 in
theorem qX11_tick_59 {p : Program} {l : Launch} {e : Env} {s : State} {m : MethodId} {args : Array Value} {below : List Frame} {meth : Method} {c : Code} {ρ : bsR} {sc L : Nat} {xs : Nat → Int32} {cA : Nat → ClassId} {dC : Nat → ClassId} {dI : Nat → Nat → Nat} {A : Nat → Prop} {Ts : List Cond} {σ : xA2} {F : va_W} {B : Nat} {z : (Int32 × bsX × pY)} (C : xCx p m c cX11_tick 2 s args Ts RX11 ρ sc L xs cA dC dI A meth (some (.object "BootSlotsLaw$World")))  : ∀ (X : bsX) (Z : pY) (θ : xA2) (cl sl : Nat), cl + ((0)) ≤ 6 → sl + ((0)) ≤ 20 + 2 * B → hX11_tick_59 B X Z = some z → xV p l e (rmX11_tick B) s m args below meth c cl sl (MQ below (xQr ρ cA dC dI A (fun a X' R' => a = σ 0 0 ∧ X' = z.2.1 ∧ ∃ θ' : xA2, R' = lwWs σ θ' cA z.2.2 ++ F)) args s (rmX11_tick B).cells (rmX11_tick B).slots A) ρ cA dC dI A (lwWs σ θ cA Z ++ (F ++ [])) 2 59 [(0, .ref (σ 0 0))] [] X := by
  intro X Z θ cl sl hcl hsl hf
  rw [hX11_tick_59] at hf
  refine x_aload_n C dX11_tick_59 rfl rfl ?_
  obtain rfl := Option.some.inj hf
  refine xu_dropall ?_
  exact x_aret C (Or.inl ⟨_, rfl⟩) ⟨rfl, rfl, _, rfl⟩ (by show _ ≤ 6; omega) (by show _ ≤ 20 + 2 * B; omega) dX11_tick_60
set_option maxHeartbeats 4000000 in
set_option maxRecDepth 100000 in
theorem qX11_tick_123 {p : Program} {l : Launch} {e : Env} {s : State} {m : MethodId} {args : Array Value} {below : List Frame} {meth : Method} {c : Code} {ρ : bsR} {sc L : Nat} {xs : Nat → Int32} {cA : Nat → ClassId} {dC : Nat → ClassId} {dI : Nat → Nat → Nat} {A : Nat → Prop} {Ts : List Cond} {σ : xA2} {F : va_W} {B : Nat} {z : (Int32 × bsX × pY)} (C : xCx p m c cX11_tick 2 s args Ts RX11 ρ sc L xs cA dC dI A meth (some (.object "BootSlotsLaw$World")))  : ∀ (X : bsX) (Z : pY) (θ : xA2) (cl sl : Nat), cl + ((0)) ≤ 6 → sl + ((0)) ≤ 20 + 2 * B → hX11_tick_123 B X Z = some z → xV p l e (rmX11_tick B) s m args below meth c cl sl (MQ below (xQr ρ cA dC dI A (fun a X' R' => a = σ 0 0 ∧ X' = z.2.1 ∧ ∃ θ' : xA2, R' = lwWs σ θ' cA z.2.2 ++ F)) args s (rmX11_tick B).cells (rmX11_tick B).slots A) ρ cA dC dI A (lwWs σ θ cA Z ++ (F ++ [])) 2 123 [(0, .ref (σ 0 0))] [] X := by
  intro X Z θ cl sl hcl hsl hf
  rw [hX11_tick_123] at hf
  refine x_aload_n C dX11_tick_123 rfl rfl ?_
  obtain rfl := Option.some.inj hf
  refine xu_dropall ?_
  exact x_aret C (Or.inl ⟨_, rfl⟩) ⟨rfl, rfl, _, rfl⟩ (by show _ ≤ 6; omega) (by show _ ≤ 20 + 2 * B; omega) dX11_tick_124
set_option maxHeartbeats 4000000 in
set_option maxRecDepth 100000 in
theorem qX11_tick_45 {p : Program} {l : Launch} {e : Env} {s : State} {m : MethodId} {args : Array Value} {below : List Frame} {meth : Method} {c : Code} {ρ : bsR} {sc L : Nat} {xs : Nat → Int32} {cA : Nat → ClassId} {dC : Nat → ClassId} {dI : Nat → Nat → Nat} {A : Nat → Prop} {Ts : List Cond} {σ : xA2} {F : va_W} {B : Nat} {z : (Int32 × bsX × pY)} (C : xCx p m c cX11_tick 2 s args Ts RX11 ρ sc L xs cA dC dI A meth (some (.object "BootSlotsLaw$World")))  : ∀ (X : bsX) (Z : pY) (θ : xA2) (cl sl : Nat), cl + ((4)) ≤ 6 → sl + ((15 + 1 * B)) ≤ 20 + 2 * B → hX11_tick_45 B X Z = some z → xV p l e (rmX11_tick B) s m args below meth c cl sl (MQ below (xQr ρ cA dC dI A (fun a X' R' => a = σ 0 0 ∧ X' = z.2.1 ∧ ∃ θ' : xA2, R' = lwWs σ θ' cA z.2.2 ++ F)) args s (rmX11_tick B).cells (rmX11_tick B).slots A) ρ cA dC dI A (lwWs σ θ cA Z ++ (F ++ [])) 2 45 [(0, .ref (σ 0 0))] [] X := by
  intro X Z θ cl sl hcl hsl hf
  rw [hX11_tick_45] at hf
  refine x_aload_n C dX11_tick_45 rfl rfl ?_
  refine xg_X11_105 C dX11_tick_46 ?_
  refine x_if_eq (tgt := 59) C dX11_tick_49 (by decide) (fun h10 => ?_) (fun h10 => ?_)
  · replace hf := bs_pos h10 hf
    refine x_sub [0] rfl ?_
    exact qX11_tick_59  C   _ _ _  _ _  (by omega) (by omega) hf
  · replace hf := bs_neg h10 hf
    refine x_aload_n C dX11_tick_52 rfl rfl ?_
    refine xg_X11_17 C dX11_tick_53 ?_
    refine x_if_ge (tgt := 61) C dX11_tick_56 (by decide) (fun h9 => ?_) (fun h9 => ?_)
    · replace hf := bs_pos h9 hf
      refine x_aload_n C dX11_tick_61 rfl rfl ?_
      refine x_dup C dX11_tick_62 rfl ?_
      refine xg_X11_119 C dX11_tick_63 ?_
      refine x_iconst (v := 1) C dX11_tick_66 (by decide) ?_
      refine x_isub C dX11_tick_67 ?_
      refine xp_X11_119 C dX11_tick_68 ?_
      refine x_aload_n C dX11_tick_71 rfl rfl ?_
      refine xg_X11_119 C dX11_tick_72 ?_
      refine x_if_le (tgt := 80) C dX11_tick_75 (by decide) (fun h8 => ?_) (fun h8 => ?_)
      · replace hf := bs_pos h8 hf
        refine x_aload_n C dX11_tick_80 rfl rfl ?_
        refine x_aload_n C dX11_tick_81 rfl rfl ?_
        refine xg_X11_17 C dX11_tick_82 ?_
        refine x_aload_n C dX11_tick_85 rfl rfl ?_
        refine xg_X11_20 C dX11_tick_86 ?_
        refine x_iconst (v := 3) C dX11_tick_89 (by decide) ?_
        obtain ⟨r1, hc2, hf⟩ := bs_bind hf
        obtain ⟨q0, he⟩ := xr_wor σ θ cA (wr Z 2 0 2 ((Z 2 0 2) - (1 : Int32))) (F ++ [])
        refine x_callVv (y := yX11_comes) (As := [.int ((wr Z 2 0 2 ((Z 2 0 2) - (1 : Int32))) 2 0 1), .ref (σ 4 0), .int (3 : Int32)]) (rest := []) C (cX11_comes_ok  hc2) ml_X11_174 wyX11_comes he rfl dpX11_comes ⟨Nat.le_of_ble_eq_true rfl, Nat.le_of_ble_eq_true rfl⟩ ⟨by show (cl) + 2 ≤ 6; omega, by show (sl) + (10) ≤ 20 + 2 * B; omega⟩ rfl (Nat.le_of_ble_eq_true rfl) dX11_tick_90 (fun X' R' hp => ?_)
        obtain ⟨rfl, θ, rfl⟩ := hp
        refine x_widen (k := (cl + 2)) (n := (sl + 10)) (by show (cl) + 2 ≤ _; omega) (by show (sl) + (10) ≤ _; omega) ?_
        refine x_aload_n C dX11_tick_93 rfl rfl ?_
        refine x_iconst (v := -1) C dX11_tick_94 (by decide) ?_
        refine xp_X11_17 C dX11_tick_95 ?_
        refine x_aload_n C dX11_tick_98 rfl rfl ?_
        refine xg_X11_13 C dX11_tick_99 ?_
        refine x_bipush (v := 19) C dX11_tick_102 (by decide) ?_
        refine x_dup2 C dX11_tick_104 rfl rfl ?_
        refine xl_cnt C (by decide) dX11_tick_105 ?_
        refine x_iconst (v := 1) C dX11_tick_106 (by decide) ?_
        refine x_iadd C dX11_tick_107 ?_
        refine xs_cnt C (by decide) dX11_tick_108 ?_
        refine x_aload_n C dX11_tick_109 rfl rfl ?_
        refine xg_X11_105 C dX11_tick_110 ?_
        refine x_iconst (v := 2) C dX11_tick_113 (by decide) ?_
        refine x_icmp_ne (tgt := 123) C dX11_tick_114 (by decide) (fun h7 => ?_) (fun h7 => ?_)
        · replace hf := bs_neg h7 hf
          refine x_sub [0] rfl ?_
          exact qX11_tick_123  C   _ _ _  _ _  (by omega) (by omega) hf
        · replace hf := bs_pos h7 hf
          refine x_aload_n C dX11_tick_117 rfl rfl ?_
          refine x_iconst (v := 4) C dX11_tick_118 (by decide) ?_
          obtain ⟨r4, hc5, hf⟩ := bs_bind hf
          obtain ⟨q0, he⟩ := xr_wor σ θ cA (wr (wr r1.2.2 2 0 1 (-1 : Int32)) 11 0 19 (((wr r1.2.2 2 0 1 (-1 : Int32)) 11 0 19) + (1 : Int32))) (F ++ [])
          refine x_callVi (y := yX11_boot) (As := [.int (4 : Int32)]) (rest := []) C (cX11_boot_ok (B := B)  hc5) ml_X11_159 wyX11_boot he rfl dpX11_boot ⟨Nat.le_of_ble_eq_true rfl, Nat.le_of_ble_eq_true rfl⟩ ⟨by show (cl + 2) + 2 ≤ 6; omega, by show (sl + 10) + (5 + 1 * B) ≤ 20 + 2 * B; omega⟩ rfl (Nat.le_of_ble_eq_true rfl) dX11_tick_119 (fun r' X' R' hp => ?_)
          obtain ⟨rfl, rfl, θ, rfl⟩ := hp
          refine x_widen (k := (cl + 4)) (n := (sl + 15 + 1 * B)) (by show (cl + 2) + 2 ≤ _; omega) (by show (sl + 10) + (5 + 1 * B) ≤ _; omega) ?_
          refine x_istore_n (lv' := [(1, .int r4.1), (0, .ref (σ 0 0))]) C dX11_tick_122 rfl (by decide) rfl ?_
          refine x_sub [1] rfl ?_
          exact qX11_tick_123  C   _ _ _  _ _  (by omega) (by omega) hf
      · replace hf := bs_neg h8 hf
        refine x_aload_n C dX11_tick_78 rfl rfl ?_
        obtain rfl := Option.some.inj hf
        refine xu_dropall ?_
        exact x_aret C (Or.inl ⟨_, rfl⟩) ⟨rfl, rfl, _, rfl⟩ (by show _ ≤ 6; omega) (by show _ ≤ 20 + 2 * B; omega) dX11_tick_79
    · replace hf := bs_neg h9 hf
      refine x_sub [0] rfl ?_
      exact qX11_tick_59  C   _ _ _  _ _  (by omega) (by omega) hf
set_option maxHeartbeats 4000000 in
set_option maxRecDepth 100000 in
theorem qX11_tick_31 {p : Program} {l : Launch} {e : Env} {s : State} {m : MethodId} {args : Array Value} {below : List Frame} {meth : Method} {c : Code} {ρ : bsR} {sc L : Nat} {xs : Nat → Int32} {cA : Nat → ClassId} {dC : Nat → ClassId} {dI : Nat → Nat → Nat} {A : Nat → Prop} {Ts : List Cond} {σ : xA2} {F : va_W} {B : Nat} {z : (Int32 × bsX × pY)} (C : xCx p m c cX11_tick 2 s args Ts RX11 ρ sc L xs cA dC dI A meth (some (.object "BootSlotsLaw$World")))  : ∀ (y1 : Int32) (y2 : Int32) (y3 : Int32) (X : bsX) (Z : pY) (θ : xA2) (cl sl : Nat), cl + ((6)) ≤ 6 → sl + ((20 + 2 * B)) ≤ 20 + 2 * B → hX11_tick_31 B y1 y2 y3 X Z = some z → xV p l e (rmX11_tick B) s m args below meth c cl sl (MQ below (xQr ρ cA dC dI A (fun a X' R' => a = σ 0 0 ∧ X' = z.2.1 ∧ ∃ θ' : xA2, R' = lwWs σ θ' cA z.2.2 ++ F)) args s (rmX11_tick B).cells (rmX11_tick B).slots A) ρ cA dC dI A (lwWs σ θ cA Z ++ (F ++ [])) 2 31 [(0, .ref (σ 0 0))] [.int y3, .int y2, .int y1, .ref (σ 1 0)] X := by
  intro y1 y2 y3 X Z θ cl sl hcl hsl hf
  rw [hX11_tick_31] at hf
  refine x_iadd C dX11_tick_31 ?_
  obtain ⟨hg11, hf⟩ := bs_if hf
  refine xs_cnt C hg11 dX11_tick_32 ?_
  refine x_aload_n C dX11_tick_33 rfl rfl ?_
  refine xg_X11_105 C dX11_tick_34 ?_
  refine x_iconst (v := 1) C dX11_tick_37 (by decide) ?_
  refine x_icmp_ne (tgt := 45) C dX11_tick_38 (by decide) (fun h15 => ?_) (fun h15 => ?_)
  · replace hf := bs_neg h15 hf
    refine x_sub [0] rfl ?_
    exact qX11_tick_45  C   _ _ _  _ _  (by omega) (by omega) hf
  · replace hf := bs_pos h15 hf
    refine x_aload_n C dX11_tick_41 rfl rfl ?_
    obtain ⟨r12, hc13, hf⟩ := bs_bind hf
    obtain ⟨q0, he⟩ := xr_wor σ θ cA (wr Z 11 0 (bsIx y1) (y2 + y3)) (F ++ [])
    refine x_callVv (y := yX11_goes) (As := []) (rest := []) C (cX11_goes_ok (B := B)  hc13) ml_X11_171 wyX11_goes he rfl dpX11_goes ⟨Nat.le_of_ble_eq_true rfl, Nat.le_of_ble_eq_true rfl⟩ ⟨by show (cl) + 2 ≤ 6; omega, by show (sl) + (5 + 1 * B) ≤ 20 + 2 * B; omega⟩ rfl (Nat.le_of_ble_eq_true rfl) dX11_tick_42 (fun X' R' hp => ?_)
    obtain ⟨rfl, θ, rfl⟩ := hp
    refine x_widen (k := (cl + 2)) (n := (sl + 5 + 1 * B)) (by show (cl) + 2 ≤ _; omega) (by show (sl) + (5 + 1 * B) ≤ _; omega) ?_
    refine x_sub [0] rfl ?_
    exact qX11_tick_45  C   _ _ _  _ _  (by omega) (by omega) hf
set_option maxHeartbeats 4000000 in
set_option maxRecDepth 100000 in
theorem cX11_tick_ok {l : Launch} {ρ : bsR} {sc L : Nat} {xs : Nat → Int32} {cA : Nat → ClassId} {dC : Nat → ClassId} {dI : Nat → Nat → Nat} {σ θ : xA2} {F : va_W} {B : Nat} {X : bsX} {Z : pY} {z : (Int32 × bsX × pY)} (hf : hX11_tick B X Z = some z) : xMr l yX11_tick cX11_tick 2 (some (.object "BootSlotsLaw$World")) (rmX11_tick B) ρ sc L xs cA dC dI [.ref (σ 0 0)] X (lwWs σ θ cA Z ++ F) (fun a X' R' => a = σ 0 0 ∧ X' = z.2.1 ∧ ∃ θ' : xA2, R' = lwWs σ θ' cA z.2.2 ++ F) := by
  refine xMr_of (by decide) (Nat.le_of_ble_eq_true rfl) (fun p e s m args below meth c C => ?_)
  have C : xCx p m c cX11_tick 2 s args (Cond.code yX11_tick cX11_tick 2 (some (.object "BootSlotsLaw$World")) :: bsG) RX11 ρ sc L xs cA dC dI (bsA ρ cA (lwWs σ θ cA Z ++ F) s.heap.size) meth (some (.object "BootSlotsLaw$World")) := C
  rw [hX11_tick] at hf
  generalize (bsA ρ cA (lwWs σ θ cA Z ++ F) s.heap.size) = A at C ⊢
  refine x_sub [0] rfl ?_
  refine xu_none ?_
  refine x_aload_n C dX11_tick_0 rfl rfl ?_
  refine x_dup C dX11_tick_1 rfl ?_
  refine xg_X11_102 C dX11_tick_2 ?_
  refine x_iconst (v := 1) C dX11_tick_5 (by decide) ?_
  refine x_iadd C dX11_tick_6 ?_
  refine xp_X11_102 C dX11_tick_7 ?_
  refine x_aload_n C dX11_tick_10 rfl rfl ?_
  refine xg_X11_13 C dX11_tick_11 ?_
  refine x_bipush (v := 18) C dX11_tick_14 (by decide) ?_
  refine x_dup2 C dX11_tick_16 rfl rfl ?_
  refine xl_cnt C (by decide) dX11_tick_17 ?_
  refine x_aload_n C dX11_tick_18 rfl rfl ?_
  refine xg_X11_105 C dX11_tick_19 ?_
  refine x_iconst (v := 2) C dX11_tick_22 (by decide) ?_
  refine x_icmp_ne (tgt := 30) C dX11_tick_23 (by decide) (fun h16 => ?_) (fun h16 => ?_)
  · replace hf := bs_neg h16 hf
    refine x_iconst (v := 0) C dX11_tick_30 (by decide) ?_
    refine x_sub [0] rfl ?_
    exact qX11_tick_31  C  _ _ _ _ _ _  _ _  (by omega) (by omega) hf
  · replace hf := bs_pos h16 hf
    refine x_iconst (v := 1) C dX11_tick_26 (by decide) ?_
    refine x_goto (tgt := 31) C dX11_tick_27 (by decide) ?_
    refine x_sub [0] rfl ?_
    exact qX11_tick_31  C  _ _ _ _ _ _  _ _  (by omega) (by omega) hf
/-! BootSlotsLaw$World.ticks(I)LBootSlotsLaw$World; -/
def hX11_ticks_2 (B : Nat) : Nat → Int32 → Int32 → bsX → pY → Option (Int32 × bsX × pY)
  | 0, _, _, _, _ => none
  | n + 1, x1, x2, X, Z => if x1 ≤ x2 then (some ((0 : Int32), X, Z)) else ((hX11_tick B  X Z).bind fun r1 => hX11_ticks_2 B  n x1 (x2 + (1 : Int32)) r1.2.1 r1.2.2)
def hX11_ticks (B : Nat) (a1 : Int32) (X : bsX) (Z : pY) : Option (Int32 × bsX × pY) := hX11_ticks_2 B  61 a1 (0 : Int32) X Z
abbrev rmX11_ticks (B : Nat) : Room := { frames := 6, cells := 366, slots := 1220 + 122 * B, locals := 367 }
set_option maxHeartbeats 4000000 in
set_option maxRecDepth 100000 in
theorem qX11_ticks_2 {p : Program} {l : Launch} {e : Env} {s : State} {m : MethodId} {args : Array Value} {below : List Frame} {meth : Method} {c : Code} {ρ : bsR} {sc L : Nat} {xs : Nat → Int32} {cA : Nat → ClassId} {dC : Nat → ClassId} {dI : Nat → Nat → Nat} {A : Nat → Prop} {Ts : List Cond} {σ : xA2} {F : va_W} {B : Nat} {z : (Int32 × bsX × pY)} (C : xCx p m c cX11_ticks 3 s args Ts RX11 ρ sc L xs cA dC dI A meth (some (.object "BootSlotsLaw$World")))  : ∀ (n : Nat), ∀ (x1 : Int32) (x2 : Int32) (X : bsX) (Z : pY) (θ : xA2) (cl sl : Nat), cl + (n * 6 + (0)) ≤ 366 → sl + (n * (20 + 2 * B) + (0)) ≤ 1220 + 122 * B → hX11_ticks_2 B n x1 x2 X Z = some z → xV p l e (rmX11_ticks B) s m args below meth c cl sl (MQ below (xQr ρ cA dC dI A (fun a X' R' => a = σ 0 0 ∧ X' = z.2.1 ∧ ∃ θ' : xA2, R' = lwWs σ θ' cA z.2.2 ++ F)) args s (rmX11_ticks B).cells (rmX11_ticks B).slots A) ρ cA dC dI A (lwWs σ θ cA Z ++ (F ++ [])) 3 2 [(0, .ref (σ 0 0)), (1, .int x1), (2, .int x2)] [] X := by
  intro n
  induction n with
  | zero => intro x1 x2 X Z θ cl sl hcl hsl hf; exact (nomatch hf)
  | succ n ih =>
    intro x1 x2 X Z θ cl sl hcl hsl hf
    rw [hX11_ticks_2] at hf
    have hnk : (n + 1) * (20 + 2 * B) = n * (20 + 2 * B) + (20 + 2 * B) := Nat.succ_mul n (20 + 2 * B)
    refine x_iload_n C dX11_ticks_2 rfl rfl ?_
    refine x_iload_n C dX11_ticks_3 rfl rfl ?_
    refine x_icmp_ge (tgt := 18) C dX11_ticks_4 (by decide) (fun h4 => ?_) (fun h4 => ?_)
    · replace hf := bs_pos h4 hf
      refine x_aload_n C dX11_ticks_18 rfl rfl ?_
      obtain rfl := Option.some.inj hf
      refine xu_dropall ?_
      exact x_aret C (Or.inl ⟨_, rfl⟩) ⟨rfl, rfl, _, rfl⟩ (by show _ ≤ 366; omega) (by show _ ≤ 1220 + 122 * B; omega) dX11_ticks_19
    · replace hf := bs_neg h4 hf
      refine x_aload_n C dX11_ticks_7 rfl rfl ?_
      obtain ⟨r1, hc2, hf⟩ := bs_bind hf
      obtain ⟨q0, he⟩ := xr_wor σ θ cA Z (F ++ [])
      refine x_callVr (y := yX11_tick) (As := []) (rest := []) C (cX11_tick_ok (B := B)  hc2) ml_X11_178 wyX11_tick he rfl dpX11_tick ⟨Nat.le_of_ble_eq_true rfl, Nat.le_of_ble_eq_true rfl⟩ ⟨by show (cl) + 6 ≤ 366; omega, by show (sl) + (20 + 2 * B) ≤ 1220 + 122 * B; omega⟩ rfl (Nat.le_of_ble_eq_true rfl) dX11_ticks_8 (fun r' X' R' hp => ?_)
      obtain ⟨rfl, rfl, θ, rfl⟩ := hp
      refine x_widen (k := (cl + 6)) (n := (sl + 20 + 2 * B)) (by show (cl) + 6 ≤ _; omega) (by show (sl) + (20 + 2 * B) ≤ _; omega) ?_
      refine x_pop C dX11_ticks_11 rfl ?_
      refine x_iinc (k0 := 2) (v := (x2 + (1 : Int32))) (lv' := [(2, .int (x2 + (1 : Int32))), (0, .ref (σ 0 0)), (1, .int x1)]) C dX11_ticks_12 rfl rfl (by decide) rfl ?_
      refine x_goto (tgt := 2) C dX11_ticks_15 (by decide) ?_
      refine x_sub [1, 2, 0] rfl ?_
      exact ih _ _ _ _ _  _ _  (by omega) (by omega) hf
set_option maxHeartbeats 4000000 in
set_option maxRecDepth 100000 in
theorem cX11_ticks_ok {l : Launch} {ρ : bsR} {sc L : Nat} {xs : Nat → Int32} {cA : Nat → ClassId} {dC : Nat → ClassId} {dI : Nat → Nat → Nat} {σ θ : xA2} {F : va_W} {B : Nat} {a1 : Int32} {X : bsX} {Z : pY} {z : (Int32 × bsX × pY)} (hf : hX11_ticks B a1 X Z = some z) : xMr l yX11_ticks cX11_ticks 3 (some (.object "BootSlotsLaw$World")) (rmX11_ticks B) ρ sc L xs cA dC dI [.ref (σ 0 0), .int a1] X (lwWs σ θ cA Z ++ F) (fun a X' R' => a = σ 0 0 ∧ X' = z.2.1 ∧ ∃ θ' : xA2, R' = lwWs σ θ' cA z.2.2 ++ F) := by
  refine xMr_of (by decide) (Nat.le_of_ble_eq_true rfl) (fun p e s m args below meth c C => ?_)
  have C : xCx p m c cX11_ticks 3 s args (Cond.code yX11_ticks cX11_ticks 3 (some (.object "BootSlotsLaw$World")) :: bsG) RX11 ρ sc L xs cA dC dI (bsA ρ cA (lwWs σ θ cA Z ++ F) s.heap.size) meth (some (.object "BootSlotsLaw$World")) := C
  rw [hX11_ticks] at hf
  generalize (bsA ρ cA (lwWs σ θ cA Z ++ F) s.heap.size) = A at C ⊢
  refine x_sub [0, 1] rfl ?_
  refine xu_none ?_
  refine x_iconst (v := 0) C dX11_ticks_0 (by decide) ?_
  refine x_istore_n (lv' := [(2, .int (0 : Int32)), (0, .ref (σ 0 0)), (1, .int a1)]) C dX11_ticks_1 rfl (by decide) rfl ?_
  refine x_sub [1, 2, 0] rfl ?_
  exact qX11_ticks_2  C  61 _ _ _ _ _  _ _  (by omega) (by omega) hf
