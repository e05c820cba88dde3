theorem ml_L_223 : Cond.methodLink RL 223 yX8_whyNot ∈ bsG := bsG_in 1367 (by decide +kernel) rfl
theorem ml_L_226 : Cond.methodLink RL 226 yX8_place ∈ bsG := bsG_in 1375 (by decide +kernel) rfl
theorem ml_L_229 : Cond.methodLink RL 229 yX8_twins ∈ bsG := bsG_in 1380 (by decide +kernel) rfl
theorem ml_L_232 : Cond.methodLink RL 232 yX8_bootsOf ∈ bsG := bsG_in 1384 (by decide +kernel) rfl
theorem ml_L_235 : Cond.methodLink RL 235 yX8_floorWith ∈ bsG := bsG_in 1389 (by decide +kernel) rfl
theorem ml_L_238 : Cond.methodLink RL 238 yX11_floorWith ∈ bsG := bsG_in 1394 (by decide +kernel) rfl
theorem ml_L_239 : Cond.methodLink RL 239 yX8_mayHold ∈ bsG := bsG_in 1395 (by decide +kernel) rfl
theorem ml_L_243 : Cond.methodLink RL 243 yX8_newest ∈ bsG := bsG_in 1399 (by decide +kernel) rfl
theorem ml_L_246 : Cond.methodLink RL 246 yX8_sinking ∈ bsG := bsG_in 1403 (by decide +kernel) rfl
theorem ml_L_249 : Cond.methodLink RL 249 yX8_mostBoots ∈ bsG := bsG_in 1407 (by decide +kernel) rfl
theorem ml_L_252 : Cond.methodLink RL 252 yX8_weakest ∈ bsG := bsG_in 1411 (by decide +kernel) rfl
theorem ml_L_255 : Cond.methodLink RL 255 yX8_highestFloor ∈ bsG := bsG_in 1415 (by decide +kernel) rfl
theorem ml_L_258 : Cond.methodLink RL 258 yX8_choice ∈ bsG := bsG_in 1420 (by decide +kernel) rfl
theorem ml_L_261 : Cond.methodLink RL 261 yX11_choice ∈ bsG := bsG_in 1425 (by decide +kernel) rfl
theorem ml_L_263 : Cond.methodLink RL 263 yX8_fallback ∈ bsG := bsG_in 1426 (by decide +kernel) rfl
theorem ml_L_266 : Cond.methodLink RL 266 yX8_spare ∈ bsG := bsG_in 1431 (by decide +kernel) rfl
theorem ml_L_269 : Cond.methodLink RL 269 yL_spare ∈ bsG := bsG_in 1443 (by decide +kernel) rfl
theorem dpL_spare : (parseMethodDescriptor yL_spare.desc).map (fun d => d.parameters.length) = some 1 := by decide +kernel
theorem wzL_spare : bsWz yL_spare cL_spare 5 (some .int) := ⟨bsG_in 1444 (by decide +kernel) rfl, bsG_in 37 (by decide +kernel) rfl, bsG_in 1445 (by decide +kernel) rfl, by decide +kernel, by decide +kernel⟩
theorem dpX8_bootsOf : (parseMethodDescriptor yX8_bootsOf.desc).map (fun d => d.parameters.length) = some 1 := by decide +kernel
theorem wyX8_bootsOf : bsWy yX8_bootsOf cX8_bootsOf 4 (some .int) := ⟨bsG_in 1385 (by decide +kernel) rfl, bsG_in 1386 (by decide +kernel) rfl, bsG_in 52 (by decide +kernel) rfl, bsG_in 1387 (by decide +kernel) rfl, by decide +kernel, by decide +kernel⟩
theorem dpX8_choice : (parseMethodDescriptor yX8_choice.desc).map (fun d => d.parameters.length) = some 0 := by decide +kernel
theorem wyX8_choice : bsWy yX8_choice cX8_choice 1 (some .int) := ⟨bsG_in 1421 (by decide +kernel) rfl, bsG_in 1422 (by decide +kernel) rfl, bsG_in 52 (by decide +kernel) rfl, bsG_in 1423 (by decide +kernel) rfl, by decide +kernel, by decide +kernel⟩
theorem dpX8_fallback : (parseMethodDescriptor yX8_fallback.desc).map (fun d => d.parameters.length) = some 0 := by decide +kernel
theorem wyX8_fallback : bsWy yX8_fallback cX8_fallback 1 (some .int) := ⟨bsG_in 1427 (by decide +kernel) rfl, bsG_in 1428 (by decide +kernel) rfl, bsG_in 52 (by decide +kernel) rfl, bsG_in 1429 (by decide +kernel) rfl, by decide +kernel, by decide +kernel⟩
theorem dpX8_floorWith : (parseMethodDescriptor yX8_floorWith.desc).map (fun d => d.parameters.length) = some 1 := by decide +kernel
theorem wyX8_floorWith : bsWy yX8_floorWith cX8_floorWith 2 (some .int) := ⟨bsG_in 1390 (by decide +kernel) rfl, bsG_in 1391 (by decide +kernel) rfl, bsG_in 52 (by decide +kernel) rfl, bsG_in 1392 (by decide +kernel) rfl, by decide +kernel, by decide +kernel⟩
theorem dpX8_highestFloor : (parseMethodDescriptor yX8_highestFloor.desc).map (fun d => d.parameters.length) = some 0 := by decide +kernel
theorem wyX8_highestFloor : bsWy yX8_highestFloor cX8_highestFloor 4 (some .int) := ⟨bsG_in 1416 (by decide +kernel) rfl, bsG_in 1417 (by decide +kernel) rfl, bsG_in 52 (by decide +kernel) rfl, bsG_in 1418 (by decide +kernel) rfl, by decide +kernel, by decide +kernel⟩
theorem dpX8_mayHold : (parseMethodDescriptor yX8_mayHold.desc).map (fun d => d.parameters.length) = some 1 := by decide +kernel
theorem wyX8_mayHold : bsWy yX8_mayHold cX8_mayHold 5 (some .boolean) := ⟨bsG_in 1396 (by decide +kernel) rfl, bsG_in 1397 (by decide +kernel) rfl, bsG_in 52 (by decide +kernel) rfl, bsG_in 1398 (by decide +kernel) rfl, by decide +kernel, by decide +kernel⟩
theorem dpX8_mostBoots : (parseMethodDescriptor yX8_mostBoots.desc).map (fun d => d.parameters.length) = some 0 := by decide +kernel
theorem wyX8_mostBoots : bsWy yX8_mostBoots cX8_mostBoots 3 (some .int) := ⟨bsG_in 1408 (by decide +kernel) rfl, bsG_in 1409 (by decide +kernel) rfl, bsG_in 52 (by decide +kernel) rfl, bsG_in 1410 (by decide +kernel) rfl, by decide +kernel, by decide +kernel⟩
theorem dpX8_newest : (parseMethodDescriptor yX8_newest.desc).map (fun d => d.parameters.length) = some 0 := by decide +kernel
theorem wyX8_newest : bsWy yX8_newest cX8_newest 5 (some .int) := ⟨bsG_in 1400 (by decide +kernel) rfl, bsG_in 1401 (by decide +kernel) rfl, bsG_in 52 (by decide +kernel) rfl, bsG_in 1402 (by decide +kernel) rfl, by decide +kernel, by decide +kernel⟩
theorem dpX8_place : (parseMethodDescriptor yX8_place.desc).map (fun d => d.parameters.length) = some 1 := by decide +kernel
theorem wyX8_place : bsWy yX8_place cX8_place 6 (some .int) := ⟨bsG_in 1376 (by decide +kernel) rfl, bsG_in 1377 (by decide +kernel) rfl, bsG_in 52 (by decide +kernel) rfl, bsG_in 1378 (by decide +kernel) rfl, by decide +kernel, by decide +kernel⟩
theorem dpX8_sinking : (parseMethodDescriptor yX8_sinking.desc).map (fun d => d.parameters.length) = some 0 := by decide +kernel
theorem wyX8_sinking : bsWy yX8_sinking cX8_sinking 4 (some .int) := ⟨bsG_in 1404 (by decide +kernel) rfl, bsG_in 1405 (by decide +kernel) rfl, bsG_in 52 (by decide +kernel) rfl, bsG_in 1406 (by decide +kernel) rfl, by decide +kernel, by decide +kernel⟩
theorem dpX8_spare : (parseMethodDescriptor yX8_spare.desc).map (fun d => d.parameters.length) = some 0 := by decide +kernel
theorem wyX8_spare : bsWy yX8_spare cX8_spare 4 (some .int) := ⟨bsG_in 1432 (by decide +kernel) rfl, bsG_in 1433 (by decide +kernel) rfl, bsG_in 52 (by decide +kernel) rfl, bsG_in 1434 (by decide +kernel) rfl, by decide +kernel, by decide +kernel⟩
theorem dpX8_twins : (parseMethodDescriptor yX8_twins.desc).map (fun d => d.parameters.length) = some 1 := by decide +kernel
theorem wyX8_twins : bsWy yX8_twins cX8_twins 6 (some .int) := ⟨bsG_in 1381 (by decide +kernel) rfl, bsG_in 1382 (by decide +kernel) rfl, bsG_in 52 (by decide +kernel) rfl, bsG_in 1383 (by decide +kernel) rfl, by decide +kernel, by decide +kernel⟩
theorem dpX8_weakest : (parseMethodDescriptor yX8_weakest.desc).map (fun d => d.parameters.length) = some 0 := by decide +kernel
theorem wyX8_weakest : bsWy yX8_weakest cX8_weakest 5 (some .int) := ⟨bsG_in 1412 (by decide +kernel) rfl, bsG_in 1413 (by decide +kernel) rfl, bsG_in 52 (by decide +kernel) rfl, bsG_in 1414 (by decide +kernel) rfl, by decide +kernel, by decide +kernel⟩
theorem dpX8_whyNot : (parseMethodDescriptor yX8_whyNot.desc).map (fun d => d.parameters.length) = some 1 := by decide +kernel
theorem wyX8_whyNot : bsWy yX8_whyNot cX8_whyNot 2 (some .int) := ⟨bsG_in 1368 (by decide +kernel) rfl, bsG_in 1369 (by decide +kernel) rfl, bsG_in 52 (by decide +kernel) rfl, bsG_in 1370 (by decide +kernel) rfl, by decide +kernel, by decide +kernel⟩
theorem mm_L_220 : Cond.methodLink RL 220 Lib.Math.max.name ∈ bsG := bsG_in 1366 (by decide +kernel) rfl
/-! BootSlotsLaw.finds(LBootSlots;LBootSlotsLaw$World;)Z -/
def hL_finds_138 (k16 : Int32 → Int32 → Int32 → Int32 → Int32 → Int32 → bsX → pY → Option (Int32 × bsX × pY)) (k47 : Int32 → Int32 → Int32 → Int32 → Int32 → Int32 → Nat → Int32 → Int32 → Int32 → Int32 → bsX → pY → Option (Int32 × bsX × pY)) (x2 : Int32) (x3 : Int32) (x4 : Int32) (x5 : Int32) (x6 : Int32) (x7 : Int32) (q8 : Nat) (x9 : Int32) (x11 : Int32) (x12 : Int32) (y0 : Int32) (y1 : Int32) (X : bsX) (Z : pY) : Option (Int32 × bsX × pY) := k47 x2 x3 x4 x5 x6 x7 q8 x9 (y0 + y1) x11 (x12 + (1 : Int32)) X Z
def hL_finds_137 (k16 : Int32 → Int32 → Int32 → Int32 → Int32 → Int32 → bsX → pY → Option (Int32 × bsX × pY)) (k47 : Int32 → Int32 → Int32 → Int32 → Int32 → Int32 → Nat → Int32 → Int32 → Int32 → Int32 → bsX → pY → Option (Int32 × bsX × pY)) (x2 : Int32) (x3 : Int32) (x4 : Int32) (x5 : Int32) (x6 : Int32) (x7 : Int32) (q8 : Nat) (x9 : Int32) (x11 : Int32) (x12 : Int32) (y0 : Int32) (X : bsX) (Z : pY) : Option (Int32 × bsX × pY) := hL_finds_138  k16 k47 x2 x3 x4 x5 x6 x7 q8 x9 x11 x12 y0 (0 : Int32) X Z
def hL_finds_88 (k16 : Int32 → Int32 → Int32 → Int32 → Int32 → Int32 → bsX → pY → Option (Int32 × bsX × pY)) (k47 : Int32 → Int32 → Int32 → Int32 → Int32 → Int32 → Nat → Int32 → Int32 → Int32 → Int32 → bsX → pY → Option (Int32 × bsX × pY)) (x2 : Int32) (x3 : Int32) (x4 : Int32) (x5 : Int32) (x6 : Int32) (x7 : Int32) (q8 : Nat) (x10 : Int32) (x11 : Int32) (x12 : Int32) (y0 : Int32) (y1 : Int32) (X : bsX) (Z : pY) : Option (Int32 × bsX × pY) := if x12 = x7 then (hL_finds_137  k16 k47 x2 x3 x4 x5 x6 x7 q8 (y0 + y1) x11 x12 x10 X Z) else ((hX10_isEmpty q8  X Z).bind fun r133 => if r133.1 = 0 then (if bsIn x12 (ln r133.2.2) then (if q8 < ln r133.2.2 then (if (r133.2.2 6 (bsIx x12) 1) = (r133.2.2 6 q8 1) then (hL_finds_138  k16 k47 x2 x3 x4 x5 x6 x7 q8 (y0 + y1) x11 x12 x10 ((1 : Int32) <<< (x12 &&& 31)) r133.2.1 r133.2.2) else (hL_finds_137  k16 k47 x2 x3 x4 x5 x6 x7 q8 (y0 + y1) x11 x12 x10 r133.2.1 r133.2.2)) else none) else none) else (if q8 < ln r133.2.2 then (hL_finds_137  k16 k47 x2 x3 x4 x5 x6 x7 q8 (y0 + y1) x11 x12 x10 r133.2.1 r133.2.2) else none))
def hL_finds_87 (k16 : Int32 → Int32 → Int32 → Int32 → Int32 → Int32 → bsX → pY → Option (Int32 × bsX × pY)) (k47 : Int32 → Int32 → Int32 → Int32 → Int32 → Int32 → Nat → Int32 → Int32 → Int32 → Int32 → bsX → pY → Option (Int32 × bsX × pY)) (x2 : Int32) (x3 : Int32) (x4 : Int32) (x5 : Int32) (x6 : Int32) (x7 : Int32) (q8 : Nat) (x10 : Int32) (x11 : Int32) (x12 : Int32) (y0 : Int32) (X : bsX) (Z : pY) : Option (Int32 × bsX × pY) := hL_finds_88  k16 k47 x2 x3 x4 x5 x6 x7 q8 x10 x11 x12 y0 (0 : Int32) X Z
def hL_finds_192 (k16 : Int32 → Int32 → Int32 → Int32 → Int32 → Int32 → bsX → pY → Option (Int32 × bsX × pY)) (k161 : Int32 → Int32 → Int32 → Int32 → Int32 → Int32 → Nat → Int32 → Int32 → Int32 → Int32 → bsX → pY → Option (Int32 × bsX × pY)) (x2 : Int32) (x3 : Int32) (x4 : Int32) (x5 : Int32) (x6 : Int32) (x7 : Int32) (q8 : Nat) (x9 : Int32) (x10 : Int32) (x12 : Int32) (y0 : Int32) (y1 : Int32) (X : bsX) (Z : pY) : Option (Int32 × bsX × pY) := k161 x2 x3 x4 x5 x6 x7 q8 x9 x10 (y0 + y1) (x12 + (1 : Int32)) X Z
def hL_finds_546 (k16 : Int32 → Int32 → Int32 → Int32 → Int32 → Int32 → bsX → pY → Option (Int32 × bsX × pY)) (x2 : Int32) (x3 : Int32) (x4 : Int32) (x5 : Int32) (x6 : Int32) (x7 : Int32) (X : bsX) (Z : pY) : Option (Int32 × bsX × pY) := k16 x2 x3 x4 x5 x6 (x7 + (1 : Int32)) X Z
def hL_finds_532 (k16 : Int32 → Int32 → Int32 → Int32 → Int32 → Int32 → bsX → pY → Option (Int32 × bsX × pY)) (x2 : Int32) (x3 : Int32) (x4 : Int32) (x5 : Int32) (x6 : Int32) (x7 : Int32) (q8 : Nat) (X : bsX) (Z : pY) : Option (Int32 × bsX × pY) := hL_finds_546  k16 x2 x3 x4 x5 (bsMax x6 (Z 6 q8 1)) x7 X Z
def hL_finds_490 (k16 : Int32 → Int32 → Int32 → Int32 → Int32 → Int32 → bsX → pY → Option (Int32 × bsX × pY)) (x2 : Int32) (x3 : Int32) (x4 : Int32) (x5 : Int32) (x6 : Int32) (x7 : Int32) (q8 : Nat) (X : bsX) (Z : pY) : Option (Int32 × bsX × pY) := (hX10_isEmpty q8  X Z).bind fun r142 => if r142.1 = 0 then (if q8 < ln r142.2.2 then (if (r142.2.2 6 q8 4) = 0 then (if (r142.2.2 5 q8 2) ≤ 0 then (hL_finds_546  k16 x2 x3 x4 x5 x6 x7 r142.2.1 r142.2.2) else (if (r142.2.2 5 q8 4) = 0 then (if (r142.2.2 5 q8 3) ≤ 0 then (hL_finds_546  k16 x2 x3 x4 x5 x6 x7 r142.2.1 r142.2.2) else (hL_finds_532  k16 x2 x3 x4 x5 x6 x7 q8 r142.2.1 r142.2.2)) else (hL_finds_532  k16 x2 x3 x4 x5 x6 x7 q8 r142.2.1 r142.2.2))) else (hL_finds_546  k16 x2 x3 x4 x5 x6 x7 r142.2.1 r142.2.2)) else none) else (hL_finds_546  k16 x2 x3 x4 x5 x6 x7 r142.2.1 r142.2.2)
def hL_finds_486 (k16 : Int32 → Int32 → Int32 → Int32 → Int32 → Int32 → bsX → pY → Option (Int32 × bsX × pY)) (x2 : Int32) (x3 : Int32) (x4 : Int32) (x6 : Int32) (x7 : Int32) (q8 : Nat) (X : bsX) (Z : pY) : Option (Int32 × bsX × pY) := hL_finds_490  k16 x2 x3 x4 x7 x6 x7 q8 X Z
def hL_finds_443 (k16 : Int32 → Int32 → Int32 → Int32 → Int32 → Int32 → bsX → pY → Option (Int32 × bsX × pY)) (x2 : Int32) (x3 : Int32) (x5 : Int32) (x6 : Int32) (x7 : Int32) (q8 : Nat) (y0 : Int32) (y1 : Int32) (X : bsX) (Z : pY) : Option (Int32 × bsX × pY) := (hX11_why  x7 X Z).bind fun r123 => if r123.1 = 0 then (if q8 < ln r123.2.2 then (if (r123.2.2 5 q8 4) = 0 then (if x5 < 0 then (hL_finds_486  k16 x2 x3 (y0 + y1) x6 x7 q8 r123.2.1 r123.2.2) else (if bsIn x5 (ln r123.2.2) then (if (r123.2.2 5 (bsIx x5) 3) ≤ (r123.2.2 5 q8 3) then (hL_finds_490  k16 x2 x3 (y0 + y1) x5 x6 x7 q8 r123.2.1 r123.2.2) else (hL_finds_486  k16 x2 x3 (y0 + y1) x6 x7 q8 r123.2.1 r123.2.2)) else none)) else (hL_finds_490  k16 x2 x3 (y0 + y1) x5 x6 x7 q8 r123.2.1 r123.2.2)) else none) else (if q8 < ln r123.2.2 then (hL_finds_490  k16 x2 x3 (y0 + y1) x5 x6 x7 q8 r123.2.1 r123.2.2) else none)
def hL_finds_421 (k16 : Int32 → Int32 → Int32 → Int32 → Int32 → Int32 → bsX → pY → Option (Int32 × bsX × pY)) (x2 : Int32) (x4 : Int32) (x5 : Int32) (x6 : Int32) (x7 : Int32) (q8 : Nat) (y0 : Int32) (y1 : Int32) (X : bsX) (Z : pY) : Option (Int32 × bsX × pY) := (hX11_why  x7 X Z).bind fun r71 => if r71.1 = 0 then (if q8 < ln r71.2.2 then (hL_finds_443  k16 x2 (y0 ||| y1) x5 x6 x7 q8 x4 (r71.2.2 5 q8 3) r71.2.1 r71.2.2) else none) else (if q8 < ln r71.2.2 then (hL_finds_443  k16 x2 (y0 ||| y1) x5 x6 x7 q8 x4 (0 : Int32) r71.2.1 r71.2.2) else none)
def hL_finds_420 (k16 : Int32 → Int32 → Int32 → Int32 → Int32 → Int32 → bsX → pY → Option (Int32 × bsX × pY)) (x2 : Int32) (x4 : Int32) (x5 : Int32) (x6 : Int32) (x7 : Int32) (q8 : Nat) (y0 : Int32) (X : bsX) (Z : pY) : Option (Int32 × bsX × pY) := hL_finds_421  k16 x2 x4 x5 x6 x7 q8 y0 (0 : Int32) X Z
def hL_finds_390 (k16 : Int32 → Int32 → Int32 → Int32 → Int32 → Int32 → bsX → pY → Option (Int32 × bsX × pY)) (x2 : Int32) (x3 : Int32) (x4 : Int32) (x5 : Int32) (x6 : Int32) (x7 : Int32) (q8 : Nat) (X : bsX) (Z : pY) : Option (Int32 × bsX × pY) := (hX10_isEmpty q8  X Z).bind fun r17 => if r17.1 = 0 then (if q8 < ln r17.2.2 then (if (r17.2.2 0 0 8) ≤ (r17.2.2 6 q8 1) then (hL_finds_420  k16 x2 x4 x5 x6 x7 q8 x3 r17.2.1 r17.2.2) else (hL_finds_421  k16 x2 x4 x5 x6 x7 q8 x3 ((1 : Int32) <<< (x7 &&& 31)) r17.2.1 r17.2.2)) else none) else (if q8 < ln r17.2.2 then (hL_finds_420  k16 x2 x4 x5 x6 x7 q8 x3 r17.2.1 r17.2.2) else none)
def hL_finds_387 (k16 : Int32 → Int32 → Int32 → Int32 → Int32 → Int32 → bsX → pY → Option (Int32 × bsX × pY)) (x3 : Int32) (x4 : Int32) (x5 : Int32) (x6 : Int32) (x7 : Int32) (q8 : Nat) (X : bsX) (Z : pY) : Option (Int32 × bsX × pY) := hL_finds_390  k16 x7 x3 x4 x5 x6 x7 q8 X Z
def hL_finds_301 (k16 : Int32 → Int32 → Int32 → Int32 → Int32 → Int32 → bsX → pY → Option (Int32 × bsX × pY)) (x2 : Int32) (x3 : Int32) (x4 : Int32) (x5 : Int32) (x6 : Int32) (x7 : Int32) (q8 : Nat) (x10 : Int32) (x11 : Int32) (x12 : Int32) (y0 : Int32) (y1 : Int32) (X : bsX) (Z : pY) : Option (Int32 × bsX × pY) := if y0 = y1 then ((fX8_twins x7 X).bind fun r77 => if r77.1 = 0 then (if r77.2.1 = x10 then ((fX8_bootsOf x7 r77.2.2).bind fun r80 => if r80.1 = 0 then (if r80.2.1 = x11 then ((fX8_floorWith x7 r80.2.2).bind fun r83 => if r83.1 = 0 then ((hX11_floorWith  x7 r83.2.2 Z).bind fun r86 => if r83.2.1 = r86.1 then ((fX8_mayHold x7 r86.2.1).bind fun r89 => if r89.1 = 0 then (if r89.2.1 = x12 then ((hX10_isEmpty q8  r89.2.2 r86.2.2).bind fun r92 => if q8 < ln r86.2.2 then (if r92.1 = 0 then (if x2 < 0 then (if q8 < ln r92.2.2 then (hL_finds_387  k16 x3 x4 x5 x6 x7 q8 r92.2.1 r92.2.2) else none) else (if q8 < ln r92.2.2 then (if bsIn x2 (ln r92.2.2) then (if (r92.2.2 6 q8 1) ≤ (r92.2.2 6 (bsIx x2) 1) then (hL_finds_390  k16 x2 x3 x4 x5 x6 x7 q8 r92.2.1 r92.2.2) else (hL_finds_387  k16 x3 x4 x5 x6 x7 q8 r92.2.1 r92.2.2)) else none) else none)) else (if q8 < ln r92.2.2 then (hL_finds_390  k16 x2 x3 x4 x5 x6 x7 q8 r92.2.1 r92.2.2) else none)) else none) else (some ((0 : Int32), r89.2.2, r86.2.2))) else none) else (some ((0 : Int32), r86.2.1, r86.2.2))) else none) else (some ((0 : Int32), r80.2.2, Z))) else none) else (some ((0 : Int32), r77.2.2, Z))) else none) else (some ((0 : Int32), X, Z))
def hL_finds_263 (k16 : Int32 → Int32 → Int32 → Int32 → Int32 → Int32 → bsX → pY → Option (Int32 × bsX × pY)) (x2 : Int32) (x3 : Int32) (x4 : Int32) (x5 : Int32) (x6 : Int32) (x7 : Int32) (q8 : Nat) (x9 : Int32) (x10 : Int32) (x11 : Int32) (y0 : Int32) (X : bsX) (Z : pY) : Option (Int32 × bsX × pY) := (fX8_whyNot x7 X).bind fun r1 => if r1.1 = 0 then ((hX11_why  x7 r1.2.2 Z).bind fun r4 => if r1.2.1 = r4.1 then ((fX8_place x7 r4.2.1).bind fun r7 => if r7.1 = 0 then ((hX11_why  x7 r7.2.2 r4.2.2).bind fun r10 => if r10.1 = 0 then (if q8 < ln r10.2.2 then (hL_finds_301  k16 x2 x3 x4 x5 x6 x7 q8 x10 x11 y0 r7.2.1 x9 r10.2.1 r10.2.2) else none) else (if q8 < ln r10.2.2 then (hL_finds_301  k16 x2 x3 x4 x5 x6 x7 q8 x10 x11 y0 r7.2.1 (-1 : Int32) r10.2.1 r10.2.2) else none)) else none) else (some ((0 : Int32), r4.2.1, r4.2.2))) else none
def hL_finds_258 (k16 : Int32 → Int32 → Int32 → Int32 → Int32 → Int32 → bsX → pY → Option (Int32 × bsX × pY)) (x2 : Int32) (x3 : Int32) (x4 : Int32) (x5 : Int32) (x6 : Int32) (x7 : Int32) (q8 : Nat) (x9 : Int32) (x10 : Int32) (x11 : Int32) (X : bsX) (Z : pY) : Option (Int32 × bsX × pY) := hL_finds_263  k16 x2 x3 x4 x5 x6 x7 q8 x9 x10 x11 (1 : Int32) X Z
def hL_finds_262 (k16 : Int32 → Int32 → Int32 → Int32 → Int32 → Int32 → bsX → pY → Option (Int32 × bsX × pY)) (x2 : Int32) (x3 : Int32) (x4 : Int32) (x5 : Int32) (x6 : Int32) (x7 : Int32) (q8 : Nat) (x9 : Int32) (x10 : Int32) (x11 : Int32) (X : bsX) (Z : pY) : Option (Int32 × bsX × pY) := hL_finds_263  k16 x2 x3 x4 x5 x6 x7 q8 x9 x10 x11 (0 : Int32) X Z
def hL_finds_236 (k16 : Int32 → Int32 → Int32 → Int32 → Int32 → Int32 → bsX → pY → Option (Int32 × bsX × pY)) (x2 : Int32) (x3 : Int32) (x4 : Int32) (x5 : Int32) (x6 : Int32) (x7 : Int32) (q8 : Nat) (x9 : Int32) (x10 : Int32) (x11 : Int32) (X : bsX) (Z : pY) : Option (Int32 × bsX × pY) := if (Z 5 q8 4) = 0 then (if (Z 0 0 5) < (Z 6 q8 2) then (hL_finds_262  k16 x2 x3 x4 x5 x6 x7 q8 x9 x10 x11 X Z) else (hL_finds_258  k16 x2 x3 x4 x5 x6 x7 q8 x9 x10 x11 X Z)) else (hL_finds_258  k16 x2 x3 x4 x5 x6 x7 q8 x9 x10 x11 X Z)
def hL_finds_161 (k16 : Int32 → Int32 → Int32 → Int32 → Int32 → Int32 → bsX → pY → Option (Int32 × bsX × pY)) : Nat → Int32 → Int32 → Int32 → Int32 → Int32 → Int32 → Nat → Int32 → Int32 → Int32 → Int32 → bsX → pY → Option (Int32 × bsX × pY)
  | 0, _, _, _, _, _, _, _, _, _, _, _, _, _ => none
  | n + 1, x2, x3, x4, x5, x6, x7, q8, x9, x10, x11, x12, X, Z => if (nI (lm Z)) ≤ x12 then ((hX10_isEmpty q8  X Z).bind fun r60 => if r60.1 = 0 then (if q8 < ln r60.2.2 then (if (r60.2.2 6 q8 3) = 0 then (hL_finds_236  k16 x2 x3 x4 x5 x6 x7 q8 x9 x10 x11 r60.2.1 r60.2.2) else (if (r60.2.2 6 q8 3) ≤ (r60.2.2 6 q8 2) then (hL_finds_262  k16 x2 x3 x4 x5 x6 x7 q8 x9 x10 x11 r60.2.1 r60.2.2) else (hL_finds_236  k16 x2 x3 x4 x5 x6 x7 q8 x9 x10 x11 r60.2.1 r60.2.2))) else none) else (if q8 < ln r60.2.2 then (hL_finds_262  k16 x2 x3 x4 x5 x6 x7 q8 x9 x10 x11 r60.2.1 r60.2.2) else none)) else (if bsIn x12 (lm Z) then (if (Z 12 (bsIx x12) 3) = x7 then (hL_finds_192  k16 (hL_finds_161  k16 n) x2 x3 x4 x5 x6 x7 q8 x9 x10 x12 x11 (1 : Int32) X Z) else (hL_finds_192  k16 (hL_finds_161  k16 n) x2 x3 x4 x5 x6 x7 q8 x9 x10 x12 x11 (0 : Int32) X Z)) else none)
def hL_finds_47 (k16 : Int32 → Int32 → Int32 → Int32 → Int32 → Int32 → bsX → pY → Option (Int32 × bsX × pY)) : Nat → Int32 → Int32 → Int32 → Int32 → Int32 → Int32 → Nat → Int32 → Int32 → Int32 → Int32 → bsX → pY → Option (Int32 × bsX × pY)
  | 0, _, _, _, _, _, _, _, _, _, _, _, _, _ => none
  | n + 1, x2, x3, x4, x5, x6, x7, q8, x9, x10, x11, x12, X, Z => if (nI (ln Z)) ≤ x12 then (hL_finds_161  k16 8 x2 x3 x4 x5 x6 x7 q8 x9 x10 x11 (bsMax (0 : Int32) ((nI (lm Z)) - (12 : Int32))) X Z) else ((hX11_why  x12 X Z).bind fun r108 => if r108.1 = 0 then ((hX11_worth  x12 r108.2.1 r108.2.2).bind fun r112 => (hX11_worth  x7 r112.2.1 r112.2.2).bind fun r115 => if r112.1 ≤ r115.1 then (if q8 < ln r115.2.2 then (hL_finds_87  k16 (hL_finds_47  k16 n) x2 x3 x4 x5 x6 x7 q8 x10 x11 x12 x9 r115.2.1 r115.2.2) else none) else (if q8 < ln r115.2.2 then (hL_finds_88  k16 (hL_finds_47  k16 n) x2 x3 x4 x5 x6 x7 q8 x10 x11 x12 x9 (1 : Int32) r115.2.1 r115.2.2) else none)) else (if q8 < ln r108.2.2 then (hL_finds_87  k16 (hL_finds_47  k16 n) x2 x3 x4 x5 x6 x7 q8 x10 x11 x12 x9 r108.2.1 r108.2.2) else none))
def hL_finds_631 (y0 : Int32) (y1 : Int32) (X : bsX) (Z : pY) : Option (Int32 × bsX × pY) := if y0 = y1 then ((fX8_spare  X).bind fun r153 => if r153.1 = 0 then ((hL_spare   r153.2.2 Z).bind fun r156 => if r153.2.1 = r156.1 then (some ((1 : Int32), r156.2.1, r156.2.2)) else (some ((0 : Int32), r156.2.1, r156.2.2))) else none) else (some ((0 : Int32), X, Z))
def hL_finds_16 : Nat → Int32 → Int32 → Int32 → Int32 → Int32 → Int32 → bsX → pY → Option (Int32 × bsX × pY)
  | 0, _, _, _, _, _, _, _, _ => none
  | n + 1, x2, x3, x4, x5, x6, x7, X, Z => if (nI (ln Z)) ≤ x7 then ((fX8_newest  X).bind fun r24 => if r24.1 = 0 then (if r24.2.1 = x2 then ((fX8_sinking  r24.2.2).bind fun r27 => if r27.1 = 0 then (if r27.2.1 = x3 then ((fX8_mostBoots  r27.2.2).bind fun r30 => if r30.1 = 0 then (if r30.2.1 = x4 then ((fX8_weakest  r30.2.2).bind fun r33 => if r33.1 = 0 then (if r33.2.1 = x5 then ((fX8_highestFloor  r33.2.2).bind fun r36 => if r36.1 = 0 then (if r36.2.1 = x6 then ((fX8_choice  r36.2.2).bind fun r39 => if r39.1 = 0 then ((hX11_choice  (-1 : Int32) r39.2.2 Z).bind fun r42 => if r39.2.1 = r42.1 then ((fX8_fallback  r42.2.1).bind fun r45 => if r45.1 = 0 then (if (r42.2.2 0 0 10) = (1 : Int32) then ((hX11_choice  (r42.2.2 0 0 11) r45.2.2 r42.2.2).bind fun r48 => hL_finds_631   r45.2.1 r48.1 r48.2.1 r48.2.2) else (hL_finds_631   r45.2.1 (-1 : Int32) r45.2.2 r42.2.2)) else none) else (some ((0 : Int32), r42.2.1, r42.2.2))) else none) else (some ((0 : Int32), r36.2.2, Z))) else none) else (some ((0 : Int32), r33.2.2, Z))) else none) else (some ((0 : Int32), r30.2.2, Z))) else none) else (some ((0 : Int32), r27.2.2, Z))) else none) else (some ((0 : Int32), r24.2.2, Z))) else none) else (if bsIn x7 (ln Z) then (hL_finds_47  (hL_finds_16   n) 8 x2 x3 x4 x5 x6 x7 (bsIx x7) (0 : Int32) (0 : Int32) (0 : Int32) (0 : Int32) X Z) else none)
def hL_finds (X : bsX) (Z : pY) : Option (Int32 × bsX × pY) := hL_finds_16   8 (-1 : Int32) (0 : Int32) (0 : Int32) (-1 : Int32) (-1 : Int32) (0 : Int32) X Z
abbrev rmL_finds : Room := { frames := 9, cells := 104, slots := 624, locals := 147 }
set_option maxHeartbeats 4000000 in
set_option maxRecDepth 100000 in
theorem qL_finds_138 {p : Program} {l : Launch} {e : Env} {s : State} {m : MethodId} {args : Array Value} {below : List Frame} {meth : Method} {c : Code} {ρ : bsR} {sc L : Nat} {xs : Nat → Int32} {cA : Nat → ClassId} {dC : Nat → ClassId} {dI : Nat → Nat → Nat} {A : Nat → Prop} {Ts : List Cond} {σ : xA2} {F : va_W} (k16 : Int32 → Int32 → Int32 → Int32 → Int32 → Int32 → bsX → pY → Option (Int32 × bsX × pY)) (k47 : Int32 → Int32 → Int32 → Int32 → Int32 → Int32 → Nat → Int32 → Int32 → Int32 → Int32 → bsX → pY → Option (Int32 × bsX × pY)) {z : (Int32 × bsX × pY)} (C : xCx p m c cL_finds 13 s args Ts RL ρ sc L xs cA dC dI A meth (some .boolean)) (hst : l.stackTraces = false) {NC16 NS16 : Nat} (hk16 : ∀ (x2 : Int32) (x3 : Int32) (x4 : Int32) (x5 : Int32) (x6 : Int32) (x7 : Int32) (X : bsX) (Z : pY) (θ : xA2) (cl sl : Nat), cl + NC16 ≤ 104 → sl + NS16 ≤ 624 → k16 x2 x3 x4 x5 x6 x7 X Z = some z → xV p l e rmL_finds s m args below meth c cl sl (MQ below (xQi ρ cA dC dI A (fun r X' R' => r = z.1 ∧ X' = z.2.1 ∧ ∃ θ' : xA2, R' = lwWs σ θ' cA z.2.2 ++ F)) args s rmL_finds.cells rmL_finds.slots A) ρ cA dC dI A (lwWs σ θ cA Z ++ (F ++ [])) 13 16 [(0, .ref (ρ 13 0 0)), (1, .ref (σ 0 0)), (2, .int x2), (3, .int x3), (4, .int x4), (5, .int x5), (6, .int x6), (7, .int x7)] [] X) (hn16 : 8 ≤ NC16 ∧ 48 ≤ NS16) {NC47 NS47 : Nat} (hk47 : ∀ (x2 : Int32) (x3 : Int32) (x4 : Int32) (x5 : Int32) (x6 : Int32) (x7 : Int32) (q8 : Nat) (x9 : Int32) (x10 : Int32) (x11 : Int32) (x12 : Int32) (X : bsX) (Z : pY) (θ : xA2) (cl sl : Nat), q8 < ln Z → cl + NC47 ≤ 104 → sl + NS47 ≤ 624 → k47 x2 x3 x4 x5 x6 x7 q8 x9 x10 x11 x12 X Z = some z → xV p l e rmL_finds s m args below meth c cl sl (MQ below (xQi ρ cA dC dI A (fun r X' R' => r = z.1 ∧ X' = z.2.1 ∧ ∃ θ' : xA2, R' = lwWs σ θ' cA z.2.2 ++ F)) args s rmL_finds.cells rmL_finds.slots A) ρ cA dC dI A (lwWs σ θ cA Z ++ (F ++ [])) 13 47 [(0, .ref (ρ 13 0 0)), (1, .ref (σ 0 0)), (2, .int x2), (3, .int x3), (4, .int x4), (5, .int x5), (6, .int x6), (7, .int x7), (8, .ref (σ 5 q8)), (9, .int x9), (10, .int x10), (11, .int x11), (12, .int x12)] [] X) (hn47 : 12 + NC16 ≤ NC47 ∧ 72 + NS16 ≤ NS47)  : ∀ (x2 : Int32) (x3 : Int32) (x4 : Int32) (x5 : Int32) (x6 : Int32) (x7 : Int32) (q8 : Nat) (x9 : Int32) (x11 : Int32) (x12 : Int32) (y0 : Int32) (y1 : Int32) (X : bsX) (Z : pY) (θ : xA2) (cl sl : Nat), q8 < ln Z → cl + ((0 + NC47)) ≤ 104 → sl + ((0 + NS47)) ≤ 624 → hL_finds_138 k16 k47 x2 x3 x4 x5 x6 x7 q8 x9 x11 x12 y0 y1 X Z = some z → xV p l e rmL_finds s m args below meth c cl sl (MQ below (xQi ρ cA dC dI A (fun r X' R' => r = z.1 ∧ X' = z.2.1 ∧ ∃ θ' : xA2, R' = lwWs σ θ' cA z.2.2 ++ F)) args s rmL_finds.cells rmL_finds.slots A) ρ cA dC dI A (lwWs σ θ cA Z ++ (F ++ [])) 13 138 [(0, .ref (ρ 13 0 0)), (1, .ref (σ 0 0)), (2, .int x2), (3, .int x3), (4, .int x4), (5, .int x5), (6, .int x6), (7, .int x7), (8, .ref (σ 5 q8)), (9, .int x9), (11, .int x11), (12, .int x12)] [.int y1, .int y0] X := by
  intro x2 x3 x4 x5 x6 x7 q8 x9 x11 x12 y0 y1 X Z θ cl sl hq8 hcl hsl hf
  rw [hL_finds_138] at hf
  refine x_iadd C dL_finds_138 ?_
  refine x_istore (lv' := [(10, .int (y0 + y1)), (0, .ref (ρ 13 0 0)), (1, .ref (σ 0 0)), (2, .int x2), (3, .int x3), (4, .int x4), (5, .int x5), (6, .int x6), (7, .int x7), (8, .ref (σ 5 q8)), (9, .int x9), (11, .int x11), (12, .int x12)]) C dL_finds_139 (by decide) rfl ?_
  refine x_iinc (k0 := 12) (v := (x12 + (1 : Int32))) (lv' := [(12, .int (x12 + (1 : Int32))), (10, .int (y0 + y1)), (0, .ref (ρ 13 0 0)), (1, .ref (σ 0 0)), (2, .int x2), (3, .int x3), (4, .int x4), (5, .int x5), (6, .int x6), (7, .int x7), (8, .ref (σ 5 q8)), (9, .int x9), (11, .int x11)]) C dL_finds_141 rfl rfl (by decide) rfl ?_
  refine x_goto (tgt := 47) C dL_finds_144 (by decide) ?_
  refine x_sub [2, 3, 4, 5, 6, 7, 8, 9, 10, 11, 1, 12, 0] rfl ?_
  exact hk47 _ _ _ _ _ _ _ _ _ _ _ _ _ _  _ _ hq8 (by omega) (by omega) hf
set_option maxHeartbeats 4000000 in
set_option maxRecDepth 100000 in
theorem qL_finds_137 {p : Program} {l : Launch} {e : Env} {s : State} {m : MethodId} {args : Array Value} {below : List Frame} {meth : Method} {c : Code} {ρ : bsR} {sc L : Nat} {xs : Nat → Int32} {cA : Nat → ClassId} {dC : Nat → ClassId} {dI : Nat → Nat → Nat} {A : Nat → Prop} {Ts : List Cond} {σ : xA2} {F : va_W} (k16 : Int32 → Int32 → Int32 → Int32 → Int32 → Int32 → bsX → pY → Option (Int32 × bsX × pY)) (k47 : Int32 → Int32 → Int32 → Int32 → Int32 → Int32 → Nat → Int32 → Int32 → Int32 → Int32 → bsX → pY → Option (Int32 × bsX × pY)) {z : (Int32 × bsX × pY)} (C : xCx p m c cL_finds 13 s args Ts RL ρ sc L xs cA dC dI A meth (some .boolean)) (hst : l.stackTraces = false) {NC16 NS16 : Nat} (hk16 : ∀ (x2 : Int32) (x3 : Int32) (x4 : Int32) (x5 : Int32) (x6 : Int32) (x7 : Int32) (X : bsX) (Z : pY) (θ : xA2) (cl sl : Nat), cl + NC16 ≤ 104 → sl + NS16 ≤ 624 → k16 x2 x3 x4 x5 x6 x7 X Z = some z → xV p l e rmL_finds s m args below meth c cl sl (MQ below (xQi ρ cA dC dI A (fun r X' R' => r = z.1 ∧ X' = z.2.1 ∧ ∃ θ' : xA2, R' = lwWs σ θ' cA z.2.2 ++ F)) args s rmL_finds.cells rmL_finds.slots A) ρ cA dC dI A (lwWs σ θ cA Z ++ (F ++ [])) 13 16 [(0, .ref (ρ 13 0 0)), (1, .ref (σ 0 0)), (2, .int x2), (3, .int x3), (4, .int x4), (5, .int x5), (6, .int x6), (7, .int x7)] [] X) (hn16 : 8 ≤ NC16 ∧ 48 ≤ NS16) {NC47 NS47 : Nat} (hk47 : ∀ (x2 : Int32) (x3 : Int32) (x4 : Int32) (x5 : Int32) (x6 : Int32) (x7 : Int32) (q8 : Nat) (x9 : Int32) (x10 : Int32) (x11 : Int32) (x12 : Int32) (X : bsX) (Z : pY) (θ : xA2) (cl sl : Nat), q8 < ln Z → cl + NC47 ≤ 104 → sl + NS47 ≤ 624 → k47 x2 x3 x4 x5 x6 x7 q8 x9 x10 x11 x12 X Z = some z → xV p l e rmL_finds s m args below meth c cl sl (MQ below (xQi ρ cA dC dI A (fun r X' R' => r = z.1 ∧ X' = z.2.1 ∧ ∃ θ' : xA2, R' = lwWs σ θ' cA z.2.2 ++ F)) args s rmL_finds.cells rmL_finds.slots A) ρ cA dC dI A (lwWs σ θ cA Z ++ (F ++ [])) 13 47 [(0, .ref (ρ 13 0 0)), (1, .ref (σ 0 0)), (2, .int x2), (3, .int x3), (4, .int x4), (5, .int x5), (6, .int x6), (7, .int x7), (8, .ref (σ 5 q8)), (9, .int x9), (10, .int x10), (11, .int x11), (12, .int x12)] [] X) (hn47 : 12 + NC16 ≤ NC47 ∧ 72 + NS16 ≤ NS47)  : ∀ (x2 : Int32) (x3 : Int32) (x4 : Int32) (x5 : Int32) (x6 : Int32) (x7 : Int32) (q8 : Nat) (x9 : Int32) (x11 : Int32) (x12 : Int32) (y0 : Int32) (X : bsX) (Z : pY) (θ : xA2) (cl sl : Nat), q8 < ln Z → cl + ((0 + NC47)) ≤ 104 → sl + ((0 + NS47)) ≤ 624 → hL_finds_137 k16 k47 x2 x3 x4 x5 x6 x7 q8 x9 x11 x12 y0 X Z = some z → xV p l e rmL_finds s m args below meth c cl sl (MQ below (xQi ρ cA dC dI A (fun r X' R' => r = z.1 ∧ X' = z.2.1 ∧ ∃ θ' : xA2, R' = lwWs σ θ' cA z.2.2 ++ F)) args s rmL_finds.cells rmL_finds.slots A) ρ cA dC dI A (lwWs σ θ cA Z ++ (F ++ [])) 13 137 [(0, .ref (ρ 13 0 0)), (1, .ref (σ 0 0)), (2, .int x2), (3, .int x3), (4, .int x4), (5, .int x5), (6, .int x6), (7, .int x7), (8, .ref (σ 5 q8)), (9, .int x9), (11, .int x11), (12, .int x12)] [.int y0] X := by
  intro x2 x3 x4 x5 x6 x7 q8 x9 x11 x12 y0 X Z θ cl sl hq8 hcl hsl hf
  rw [hL_finds_137] at hf
  refine x_iconst (v := 0) C dL_finds_137 (by decide) ?_
  refine x_sub [0, 1, 2, 3, 4, 5, 6, 7, 8, 9, 10, 11] rfl ?_
  exact qL_finds_138 k16 k47 C hst hk16 hn16 hk47 hn47 _ _ _ _ _ _ _ _ _ _ _ _ _ _ _  _ _ hq8 (by omega) (by omega) hf
set_option maxHeartbeats 4000000 in
set_option maxRecDepth 100000 in
theorem qL_finds_88 {p : Program} {l : Launch} {e : Env} {s : State} {m : MethodId} {args : Array Value} {below : List Frame} {meth : Method} {c : Code} {ρ : bsR} {sc L : Nat} {xs : Nat → Int32} {cA : Nat → ClassId} {dC : Nat → ClassId} {dI : Nat → Nat → Nat} {A : Nat → Prop} {Ts : List Cond} {σ : xA2} {F : va_W} (k16 : Int32 → Int32 → Int32 → Int32 → Int32 → Int32 → bsX → pY → Option (Int32 × bsX × pY)) (k47 : Int32 → Int32 → Int32 → Int32 → Int32 → Int32 → Nat → Int32 → Int32 → Int32 → Int32 → bsX → pY → Option (Int32 × bsX × pY)) {z : (Int32 × bsX × pY)} (C : xCx p m c cL_finds 13 s args Ts RL ρ sc L xs cA dC dI A meth (some .boolean)) (hst : l.stackTraces = false) {NC16 NS16 : Nat} (hk16 : ∀ (x2 : Int32) (x3 : Int32) (x4 : Int32) (x5 : Int32) (x6 : Int32) (x7 : Int32) (X : bsX) (Z : pY) (θ : xA2) (cl sl : Nat), cl + NC16 ≤ 104 → sl + NS16 ≤ 624 → k16 x2 x3 x4 x5 x6 x7 X Z = some z → xV p l e rmL_finds s m args below meth c cl sl (MQ below (xQi ρ cA dC dI A (fun r X' R' => r = z.1 ∧ X' = z.2.1 ∧ ∃ θ' : xA2, R' = lwWs σ θ' cA z.2.2 ++ F)) args s rmL_finds.cells rmL_finds.slots A) ρ cA dC dI A (lwWs σ θ cA Z ++ (F ++ [])) 13 16 [(0, .ref (ρ 13 0 0)), (1, .ref (σ 0 0)), (2, .int x2), (3, .int x3), (4, .int x4), (5, .int x5), (6, .int x6), (7, .int x7)] [] X) (hn16 : 8 ≤ NC16 ∧ 48 ≤ NS16) {NC47 NS47 : Nat} (hk47 : ∀ (x2 : Int32) (x3 : Int32) (x4 : Int32) (x5 : Int32) (x6 : Int32) (x7 : Int32) (q8 : Nat) (x9 : Int32) (x10 : Int32) (x11 : Int32) (x12 : Int32) (X : bsX) (Z : pY) (θ : xA2) (cl sl : Nat), q8 < ln Z → cl + NC47 ≤ 104 → sl + NS47 ≤ 624 → k47 x2 x3 x4 x5 x6 x7 q8 x9 x10 x11 x12 X Z = some z → xV p l e rmL_finds s m args below meth c cl sl (MQ below (xQi ρ cA dC dI A (fun r X' R' => r = z.1 ∧ X' = z.2.1 ∧ ∃ θ' : xA2, R' = lwWs σ θ' cA z.2.2 ++ F)) args s rmL_finds.cells rmL_finds.slots A) ρ cA dC dI A (lwWs σ θ cA Z ++ (F ++ [])) 13 47 [(0, .ref (ρ 13 0 0)), (1, .ref (σ 0 0)), (2, .int x2), (3, .int x3), (4, .int x4), (5, .int x5), (6, .int x6), (7, .int x7), (8, .ref (σ 5 q8)), (9, .int x9), (10, .int x10), (11, .int x11), (12, .int x12)] [] X) (hn47 : 12 + NC16 ≤ NC47 ∧ 72 + NS16 ≤ NS47)  : ∀ (x2 : Int32) (x3 : Int32) (x4 : Int32) (x5 : Int32) (x6 : Int32) (x7 : Int32) (q8 : Nat) (x10 : Int32) (x11 : Int32) (x12 : Int32) (y0 : Int32) (y1 : Int32) (X : bsX) (Z : pY) (θ : xA2) (cl sl : Nat), q8 < ln Z → cl + ((0 + NC47)) ≤ 104 → sl + ((0 + NS47)) ≤ 624 → hL_finds_88 k16 k47 x2 x3 x4 x5 x6 x7 q8 x10 x11 x12 y0 y1 X Z = some z → xV p l e rmL_finds s m args below meth c cl sl (MQ below (xQi ρ cA dC dI A (fun r X' R' => r = z.1 ∧ X' = z.2.1 ∧ ∃ θ' : xA2, R' = lwWs σ θ' cA z.2.2 ++ F)) args s rmL_finds.cells rmL_finds.slots A) ρ cA dC dI A (lwWs σ θ cA Z ++ (F ++ [])) 13 88 [(0, .ref (ρ 13 0 0)), (1, .ref (σ 0 0)), (2, .int x2), (3, .int x3), (4, .int x4), (5, .int x5), (6, .int x6), (7, .int x7), (8, .ref (σ 5 q8)), (10, .int x10), (11, .int x11), (12, .int x12)] [.int y1, .int y0] X := by
  intro x2 x3 x4 x5 x6 x7 q8 x10 x11 x12 y0 y1 X Z θ cl sl hq8 hcl hsl hf
  rw [hL_finds_88] at hf
  refine x_iadd C dL_finds_88 ?_
  refine x_istore (lv' := [(9, .int (y0 + y1)), (0, .ref (ρ 13 0 0)), (1, .ref (σ 0 0)), (2, .int x2), (3, .int x3), (4, .int x4), (5, .int x5), (6, .int x6), (7, .int x7), (8, .ref (σ 5 q8)), (10, .int x10), (11, .int x11), (12, .int x12)]) C dL_finds_89 (by decide) rfl ?_
  refine x_iload C dL_finds_91 rfl ?_
  refine x_iload C dL_finds_93 rfl ?_
  refine x_iload C dL_finds_95 rfl ?_
  refine x_icmp_eq (tgt := 137) C dL_finds_97 (by decide) (fun h141 => ?_) (fun h141 => ?_)
  · replace hf := bs_pos h141 hf
    refine x_sub [1, 2, 3, 4, 5, 6, 7, 8, 9, 0, 11, 12] rfl ?_
    exact qL_finds_137 k16 k47 C hst hk16 hn16 hk47 hn47 _ _ _ _ _ _ _ _ _ _ _ _ _ _  _ _ hq8 (by omega) (by omega) hf
  · replace hf := bs_neg h141 hf
    refine x_aload C dL_finds_100 rfl ?_
    obtain ⟨r133, hc134, hf⟩ := bs_bind hf
    obtain ⟨q0, he⟩ := xr_plc (Z := Z) σ θ cA (F ++ []) hq8
    refine x_callVi (y := yX10_isEmpty) (As := []) (rest := [.int x10]) C (cX10_isEmpty_ok (F := F ++ []) hq8 hc134) ml_L_164 wyX10_isEmpty he rfl dpX10_isEmpty ⟨Nat.le_of_ble_eq_true rfl, Nat.le_of_ble_eq_true rfl⟩ ⟨by show (cl) + 0 ≤ 104; omega, by show (sl) + (0) ≤ 624; omega⟩ rfl (Nat.le_of_ble_eq_true rfl) dL_finds_102 (fun r' X' R' hp => ?_)
    obtain ⟨rfl, rfl, θ, rfl⟩ := hp
    refine x_widen (k := (cl)) (n := (sl)) (by show (cl) + 0 ≤ _; omega) (by show (sl) + (0) ≤ _; omega) ?_
    refine x_if_ne (tgt := 137) C dL_finds_105 (by decide) (fun h140 => ?_) (fun h140 => ?_)
    · replace hf := bs_neg h140 hf
      obtain ⟨hg136, hf⟩ := bs_if hf
      refine x_sub [1, 2, 3, 4, 5, 6, 7, 8, 9, 0, 11, 12] rfl ?_
      exact qL_finds_137 k16 k47 C hst hk16 hn16 hk47 hn47 _ _ _ _ _ _ _ _ _ _ _ _ _ _  _ _ hg136 (by omega) (by omega) hf
    · replace hf := bs_pos h140 hf
      refine x_aload_n C dL_finds_108 rfl rfl ?_
      refine xg_L_114 C dL_finds_109 ?_
      refine x_iload C dL_finds_112 rfl ?_
      obtain ⟨hg137, hf⟩ := bs_if hf
      refine xa_plc C hg137 dL_finds_114 ?_
      refine xg_L_183 C (bsIx_lt hg137) dL_finds_115 ?_
      refine x_iconst (v := 0) C dL_finds_118 (by decide) ?_
      refine xl_img C (bsIx_lt hg137) (by decide) dL_finds_119 ?_
      refine x_aload C dL_finds_120 rfl ?_
      obtain ⟨hg138, hf⟩ := bs_if hf
      refine xg_L_183 C hg138 dL_finds_122 ?_
      refine x_iconst (v := 0) C dL_finds_125 (by decide) ?_
      refine xl_img C hg138 (by decide) dL_finds_126 ?_
      refine x_icmp_ne (tgt := 137) C dL_finds_127 (by decide) (fun h139 => ?_) (fun h139 => ?_)
      · replace hf := bs_neg h139 hf
        refine x_sub [1, 2, 3, 4, 5, 6, 7, 8, 9, 0, 11, 12] rfl ?_
        exact qL_finds_137 k16 k47 C hst hk16 hn16 hk47 hn47 _ _ _ _ _ _ _ _ _ _ _ _ _ _  _ _ hg138 (by omega) (by omega) hf
      · replace hf := bs_pos h139 hf
        refine x_iconst (v := 1) C dL_finds_130 (by decide) ?_
        refine x_iload C dL_finds_131 rfl ?_
        refine x_ishl C dL_finds_133 ?_
        refine x_goto (tgt := 138) C dL_finds_134 (by decide) ?_
        refine x_sub [1, 2, 3, 4, 5, 6, 7, 8, 9, 0, 11, 12] rfl ?_
        exact qL_finds_138 k16 k47 C hst hk16 hn16 hk47 hn47 _ _ _ _ _ _ _ _ _ _ _ _ _ _ _  _ _ hg138 (by omega) (by omega) hf
set_option maxHeartbeats 4000000 in
set_option maxRecDepth 100000 in
theorem qL_finds_87 {p : Program} {l : Launch} {e : Env} {s : State} {m : MethodId} {args : Array Value} {below : List Frame} {meth : Method} {c : Code} {ρ : bsR} {sc L : Nat} {xs : Nat → Int32} {cA : Nat → ClassId} {dC : Nat → ClassId} {dI : Nat → Nat → Nat} {A : Nat → Prop} {Ts : List Cond} {σ : xA2} {F : va_W} (k16 : Int32 → Int32 → Int32 → Int32 → Int32 → Int32 → bsX → pY → Option (Int32 × bsX × pY)) (k47 : Int32 → Int32 → Int32 → Int32 → Int32 → Int32 → Nat → Int32 → Int32 → Int32 → Int32 → bsX → pY → Option (Int32 × bsX × pY)) {z : (Int32 × bsX × pY)} (C : xCx p m c cL_finds 13 s args Ts RL ρ sc L xs cA dC dI A meth (some .boolean)) (hst : l.stackTraces = false) {NC16 NS16 : Nat} (hk16 : ∀ (x2 : Int32) (x3 : Int32) (x4 : Int32) (x5 : Int32) (x6 : Int32) (x7 : Int32) (X : bsX) (Z : pY) (θ : xA2) (cl sl : Nat), cl + NC16 ≤ 104 → sl + NS16 ≤ 624 → k16 x2 x3 x4 x5 x6 x7 X Z = some z → xV p l e rmL_finds s m args below meth c cl sl (MQ below (xQi ρ cA dC dI A (fun r X' R' => r = z.1 ∧ X' = z.2.1 ∧ ∃ θ' : xA2, R' = lwWs σ θ' cA z.2.2 ++ F)) args s rmL_finds.cells rmL_finds.slots A) ρ cA dC dI A (lwWs σ θ cA Z ++ (F ++ [])) 13 16 [(0, .ref (ρ 13 0 0)), (1, .ref (σ 0 0)), (2, .int x2), (3, .int x3), (4, .int x4), (5, .int x5), (6, .int x6), (7, .int x7)] [] X) (hn16 : 8 ≤ NC16 ∧ 48 ≤ NS16) {NC47 NS47 : Nat} (hk47 : ∀ (x2 : Int32) (x3 : Int32) (x4 : Int32) (x5 : Int32) (x6 : Int32) (x7 : Int32) (q8 : Nat) (x9 : Int32) (x10 : Int32) (x11 : Int32) (x12 : Int32) (X : bsX) (Z : pY) (θ : xA2) (cl sl : Nat), q8 < ln Z → cl + NC47 ≤ 104 → sl + NS47 ≤ 624 → k47 x2 x3 x4 x5 x6 x7 q8 x9 x10 x11 x12 X Z = some z → xV p l e rmL_finds s m args below meth c cl sl (MQ below (xQi ρ cA dC dI A (fun r X' R' => r = z.1 ∧ X' = z.2.1 ∧ ∃ θ' : xA2, R' = lwWs σ θ' cA z.2.2 ++ F)) args s rmL_finds.cells rmL_finds.slots A) ρ cA dC dI A (lwWs σ θ cA Z ++ (F ++ [])) 13 47 [(0, .ref (ρ 13 0 0)), (1, .ref (σ 0 0)), (2, .int x2), (3, .int x3), (4, .int x4), (5, .int x5), (6, .int x6), (7, .int x7), (8, .ref (σ 5 q8)), (9, .int x9), (10, .int x10), (11, .int x11), (12, .int x12)] [] X) (hn47 : 12 + NC16 ≤ NC47 ∧ 72 + NS16 ≤ NS47)  : ∀ (x2 : Int32) (x3 : Int32) (x4 : Int32) (x5 : Int32) (x6 : Int32) (x7 : Int32) (q8 : Nat) (x10 : Int32) (x11 : Int32) (x12 : Int32) (y0 : Int32) (X : bsX) (Z : pY) (θ : xA2) (cl sl : Nat), q8 < ln Z → cl + ((0 + NC47)) ≤ 104 → sl + ((0 + NS47)) ≤ 624 → hL_finds_87 k16 k47 x2 x3 x4 x5 x6 x7 q8 x10 x11 x12 y0 X Z = some z → xV p l e rmL_finds s m args below meth c cl sl (MQ below (xQi ρ cA dC dI A (fun r X' R' => r = z.1 ∧ X' = z.2.1 ∧ ∃ θ' : xA2, R' = lwWs σ θ' cA z.2.2 ++ F)) args s rmL_finds.cells rmL_finds.slots A) ρ cA dC dI A (lwWs σ θ cA Z ++ (F ++ [])) 13 87 [(0, .ref (ρ 13 0 0)), (1, .ref (σ 0 0)), (2, .int x2), (3, .int x3), (4, .int x4), (5, .int x5), (6, .int x6), (7, .int x7), (8, .ref (σ 5 q8)), (10, .int x10), (11, .int x11), (12, .int x12)] [.int y0] X := by
  intro x2 x3 x4 x5 x6 x7 q8 x10 x11 x12 y0 X Z θ cl sl hq8 hcl hsl hf
  rw [hL_finds_87] at hf
  refine x_iconst (v := 0) C dL_finds_87 (by decide) ?_
  refine x_sub [0, 1, 2, 3, 4, 5, 6, 7, 8, 9, 10, 11] rfl ?_
  exact qL_finds_88 k16 k47 C hst hk16 hn16 hk47 hn47 _ _ _ _ _ _ _ _ _ _ _ _ _ _ _  _ _ hq8 (by omega) (by omega) hf
set_option maxHeartbeats 4000000 in
set_option maxRecDepth 100000 in
theorem qL_finds_192 {p : Program} {l : Launch} {e : Env} {s : State} {m : MethodId} {args : Array Value} {below : List Frame} {meth : Method} {c : Code} {ρ : bsR} {sc L : Nat} {xs : Nat → Int32} {cA : Nat → ClassId} {dC : Nat → ClassId} {dI : Nat → Nat → Nat} {A : Nat → Prop} {Ts : List Cond} {σ : xA2} {F : va_W} (k16 : Int32 → Int32 → Int32 → Int32 → Int32 → Int32 → bsX → pY → Option (Int32 × bsX × pY)) (k161 : Int32 → Int32 → Int32 → Int32 → Int32 → Int32 → Nat → Int32 → Int32 → Int32 → Int32 → bsX → pY → Option (Int32 × bsX × pY)) {z : (Int32 × bsX × pY)} (C : xCx p m c cL_finds 13 s args Ts RL ρ sc L xs cA dC dI A meth (some .boolean)) (hst : l.stackTraces = false) {NC16 NS16 : Nat} (hk16 : ∀ (x2 : Int32) (x3 : Int32) (x4 : Int32) (x5 : Int32) (x6 : Int32) (x7 : Int32) (X : bsX) (Z : pY) (θ : xA2) (cl sl : Nat), cl + NC16 ≤ 104 → sl + NS16 ≤ 624 → k16 x2 x3 x4 x5 x6 x7 X Z = some z → xV p l e rmL_finds s m args below meth c cl sl (MQ below (xQi ρ cA dC dI A (fun r X' R' => r = z.1 ∧ X' = z.2.1 ∧ ∃ θ' : xA2, R' = lwWs σ θ' cA z.2.2 ++ F)) args s rmL_finds.cells rmL_finds.slots A) ρ cA dC dI A (lwWs σ θ cA Z ++ (F ++ [])) 13 16 [(0, .ref (ρ 13 0 0)), (1, .ref (σ 0 0)), (2, .int x2), (3, .int x3), (4, .int x4), (5, .int x5), (6, .int x6), (7, .int x7)] [] X) (hn16 : 8 ≤ NC16 ∧ 48 ≤ NS16) {NC161 NS161 : Nat} (hk161 : ∀ (x2 : Int32) (x3 : Int32) (x4 : Int32) (x5 : Int32) (x6 : Int32) (x7 : Int32) (q8 : Nat) (x9 : Int32) (x10 : Int32) (x11 : Int32) (x12 : Int32) (X : bsX) (Z : pY) (θ : xA2) (cl sl : Nat), q8 < ln Z → cl + NC161 ≤ 104 → sl + NS161 ≤ 624 → k161 x2 x3 x4 x5 x6 x7 q8 x9 x10 x11 x12 X Z = some z → xV p l e rmL_finds s m args below meth c cl sl (MQ below (xQi ρ cA dC dI A (fun r X' R' => r = z.1 ∧ X' = z.2.1 ∧ ∃ θ' : xA2, R' = lwWs σ θ' cA z.2.2 ++ F)) args s rmL_finds.cells rmL_finds.slots A) ρ cA dC dI A (lwWs σ θ cA Z ++ (F ++ [])) 13 161 [(0, .ref (ρ 13 0 0)), (1, .ref (σ 0 0)), (2, .int x2), (3, .int x3), (4, .int x4), (5, .int x5), (6, .int x6), (7, .int x7), (8, .ref (σ 5 q8)), (9, .int x9), (10, .int x10), (11, .int x11), (12, .int x12)] [] X) (hn161 : 12 + NC16 ≤ NC161 ∧ 72 + NS16 ≤ NS161)  : ∀ (x2 : Int32) (x3 : Int32) (x4 : Int32) (x5 : Int32) (x6 : Int32) (x7 : Int32) (q8 : Nat) (x9 : Int32) (x10 : Int32) (x12 : Int32) (y0 : Int32) (y1 : Int32) (X : bsX) (Z : pY) (θ : xA2) (cl sl : Nat), q8 < ln Z → cl + ((0 + NC161)) ≤ 104 → sl + ((0 + NS161)) ≤ 624 → hL_finds_192 k16 k161 x2 x3 x4 x5 x6 x7 q8 x9 x10 x12 y0 y1 X Z = some z → xV p l e rmL_finds s m args below meth c cl sl (MQ below (xQi ρ cA dC dI A (fun r X' R' => r = z.1 ∧ X' = z.2.1 ∧ ∃ θ' : xA2, R' = lwWs σ θ' cA z.2.2 ++ F)) args s rmL_finds.cells rmL_finds.slots A) ρ cA dC dI A (lwWs σ θ cA Z ++ (F ++ [])) 13 192 [(0, .ref (ρ 13 0 0)), (1, .ref (σ 0 0)), (2, .int x2), (3, .int x3), (4, .int x4), (5, .int x5), (6, .int x6), (7, .int x7), (8, .ref (σ 5 q8)), (9, .int x9), (10, .int x10), (12, .int x12)] [.int y1, .int y0] X := by
  intro x2 x3 x4 x5 x6 x7 q8 x9 x10 x12 y0 y1 X Z θ cl sl hq8 hcl hsl hf
  rw [hL_finds_192] at hf
  refine x_iadd C dL_finds_192 ?_
  refine x_istore (lv' := [(11, .int (y0 + y1)), (0, .ref (ρ 13 0 0)), (1, .ref (σ 0 0)), (2, .int x2), (3, .int x3), (4, .int x4), (5, .int x5), (6, .int x6), (7, .int x7), (8, .ref (σ 5 q8)), (9, .int x9), (10, .int x10), (12, .int x12)]) C dL_finds_193 (by decide) rfl ?_
  refine x_iinc (k0 := 12) (v := (x12 + (1 : Int32))) (lv' := [(12, .int (x12 + (1 : Int32))), (11, .int (y0 + y1)), (0, .ref (ρ 13 0 0)), (1, .ref (σ 0 0)), (2, .int x2), (3, .int x3), (4, .int x4), (5, .int x5), (6, .int x6), (7, .int x7), (8, .ref (σ 5 q8)), (9, .int x9), (10, .int x10)]) C dL_finds_195 rfl rfl (by decide) rfl ?_
  refine x_goto (tgt := 161) C dL_finds_198 (by decide) ?_
  refine x_sub [2, 3, 4, 5, 6, 7, 8, 9, 10, 11, 12, 1, 0] rfl ?_
  exact hk161 _ _ _ _ _ _ _ _ _ _ _ _ _ _  _ _ hq8 (by omega) (by omega) hf
set_option maxHeartbeats 4000000 in
set_option maxRecDepth 100000 in
theorem qL_finds_546 {p : Program} {l : Launch} {e : Env} {s : State} {m : MethodId} {args : Array Value} {below : List Frame} {meth : Method} {c : Code} {ρ : bsR} {sc L : Nat} {xs : Nat → Int32} {cA : Nat → ClassId} {dC : Nat → ClassId} {dI : Nat → Nat → Nat} {A : Nat → Prop} {Ts : List Cond} {σ : xA2} {F : va_W} (k16 : Int32 → Int32 → Int32 → Int32 → Int32 → Int32 → bsX → pY → Option (Int32 × bsX × pY)) {z : (Int32 × bsX × pY)} (C : xCx p m c cL_finds 13 s args Ts RL ρ sc L xs cA dC dI A meth (some .boolean)) (hst : l.stackTraces = false) {NC16 NS16 : Nat} (hk16 : ∀ (x2 : Int32) (x3 : Int32) (x4 : Int32) (x5 : Int32) (x6 : Int32) (x7 : Int32) (X : bsX) (Z : pY) (θ : xA2) (cl sl : Nat), cl + NC16 ≤ 104 → sl + NS16 ≤ 624 → k16 x2 x3 x4 x5 x6 x7 X Z = some z → xV p l e rmL_finds s m args below meth c cl sl (MQ below (xQi ρ cA dC dI A (fun r X' R' => r = z.1 ∧ X' = z.2.1 ∧ ∃ θ' : xA2, R' = lwWs σ θ' cA z.2.2 ++ F)) args s rmL_finds.cells rmL_finds.slots A) ρ cA dC dI A (lwWs σ θ cA Z ++ (F ++ [])) 13 16 [(0, .ref (ρ 13 0 0)), (1, .ref (σ 0 0)), (2, .int x2), (3, .int x3), (4, .int x4), (5, .int x5), (6, .int x6), (7, .int x7)] [] X) (hn16 : 8 ≤ NC16 ∧ 48 ≤ NS16)  : ∀ (x2 : Int32) (x3 : Int32) (x4 : Int32) (x5 : Int32) (x6 : Int32) (x7 : Int32) (X : bsX) (Z : pY) (θ : xA2) (cl sl : Nat), cl + ((0 + NC16)) ≤ 104 → sl + ((0 + NS16)) ≤ 624 → hL_finds_546 k16 x2 x3 x4 x5 x6 x7 X Z = some z → xV p l e rmL_finds s m args below meth c cl sl (MQ below (xQi ρ cA dC dI A (fun r X' R' => r = z.1 ∧ X' = z.2.1 ∧ ∃ θ' : xA2, R' = lwWs σ θ' cA z.2.2 ++ F)) args s rmL_finds.cells rmL_finds.slots A) ρ cA dC dI A (lwWs σ θ cA Z ++ (F ++ [])) 13 546 [(0, .ref (ρ 13 0 0)), (1, .ref (σ 0 0)), (2, .int x2), (3, .int x3), (4, .int x4), (5, .int x5), (6, .int x6), (7, .int x7)] [] X := by
  intro x2 x3 x4 x5 x6 x7 X Z θ cl sl hcl hsl hf
  rw [hL_finds_546] at hf
  refine x_iinc (k0 := 7) (v := (x7 + (1 : Int32))) (lv' := [(7, .int (x7 + (1 : Int32))), (0, .ref (ρ 13 0 0)), (1, .ref (σ 0 0)), (2, .int x2), (3, .int x3), (4, .int x4), (5, .int x5), (6, .int x6)]) C dL_finds_546 rfl rfl (by decide) rfl ?_
  refine x_goto (tgt := 16) C dL_finds_549 (by decide) ?_
  refine x_sub [1, 2, 3, 4, 5, 6, 7, 0] rfl ?_
  exact hk16 _ _ _ _ _ _ _ _ _  _ _  (by omega) (by omega) hf
set_option maxHeartbeats 4000000 in
set_option maxRecDepth 100000 in
theorem qL_finds_532 {p : Program} {l : Launch} {e : Env} {s : State} {m : MethodId} {args : Array Value} {below : List Frame} {meth : Method} {c : Code} {ρ : bsR} {sc L : Nat} {xs : Nat → Int32} {cA : Nat → ClassId} {dC : Nat → ClassId} {dI : Nat → Nat → Nat} {A : Nat → Prop} {Ts : List Cond} {σ : xA2} {F : va_W} (k16 : Int32 → Int32 → Int32 → Int32 → Int32 → Int32 → bsX → pY → Option (Int32 × bsX × pY)) {z : (Int32 × bsX × pY)} (C : xCx p m c cL_finds 13 s args Ts RL ρ sc L xs cA dC dI A meth (some .boolean)) (hst : l.stackTraces = false) {NC16 NS16 : Nat} (hk16 : ∀ (x2 : Int32) (x3 : Int32) (x4 : Int32) (x5 : Int32) (x6 : Int32) (x7 : Int32) (X : bsX) (Z : pY) (θ : xA2) (cl sl : Nat), cl + NC16 ≤ 104 → sl + NS16 ≤ 624 → k16 x2 x3 x4 x5 x6 x7 X Z = some z → xV p l e rmL_finds s m args below meth c cl sl (MQ below (xQi ρ cA dC dI A (fun r X' R' => r = z.1 ∧ X' = z.2.1 ∧ ∃ θ' : xA2, R' = lwWs σ θ' cA z.2.2 ++ F)) args s rmL_finds.cells rmL_finds.slots A) ρ cA dC dI A (lwWs σ θ cA Z ++ (F ++ [])) 13 16 [(0, .ref (ρ 13 0 0)), (1, .ref (σ 0 0)), (2, .int x2), (3, .int x3), (4, .int x4), (5, .int x5), (6, .int x6), (7, .int x7)] [] X) (hn16 : 8 ≤ NC16 ∧ 48 ≤ NS16)  : ∀ (x2 : Int32) (x3 : Int32) (x4 : Int32) (x5 : Int32) (x6 : Int32) (x7 : Int32) (q8 : Nat) (X : bsX) (Z : pY) (θ : xA2) (cl sl : Nat), q8 < ln Z → cl + ((0 + NC16)) ≤ 104 → sl + ((0 + NS16)) ≤ 624 → hL_finds_532 k16 x2 x3 x4 x5 x6 x7 q8 X Z = some z → xV p l e rmL_finds s m args below meth c cl sl (MQ below (xQi ρ cA dC dI A (fun r X' R' => r = z.1 ∧ X' = z.2.1 ∧ ∃ θ' : xA2, R' = lwWs σ θ' cA z.2.2 ++ F)) args s rmL_finds.cells rmL_finds.slots A) ρ cA dC dI A (lwWs σ θ cA Z ++ (F ++ [])) 13 532 [(0, .ref (ρ 13 0 0)), (1, .ref (σ 0 0)), (2, .int x2), (3, .int x3), (4, .int x4), (5, .int x5), (6, .int x6), (7, .int x7), (8, .ref (σ 5 q8))] [] X := by
  intro x2 x3 x4 x5 x6 x7 q8 X Z θ cl sl hq8 hcl hsl hf
  rw [hL_finds_532] at hf
  refine x_iload C dL_finds_532 rfl ?_
  refine x_aload C dL_finds_534 rfl ?_
  refine xg_L_183 C hq8 dL_finds_536 ?_
  refine x_iconst (v := 0) C dL_finds_539 (by decide) ?_
  refine xl_img C hq8 (by decide) dL_finds_540 ?_
  refine x_mmax C (Nat.le_of_ble_eq_true rfl) (Nat.le_of_ble_eq_true rfl) (by show _ ≤ 104; omega) (by show _ ≤ 624; omega) (mm_L_220) dL_finds_541 ?_
  refine x_istore (lv' := [(6, .int (bsMax x6 (Z 6 q8 1))), (0, .ref (ρ 13 0 0)), (1, .ref (σ 0 0)), (2, .int x2), (3, .int x3), (4, .int x4), (5, .int x5), (7, .int x7), (8, .ref (σ 5 q8))]) C dL_finds_544 (by decide) rfl ?_
  refine x_sub [1, 2, 3, 4, 5, 6, 0, 7] rfl ?_
  exact qL_finds_546 k16 C hst hk16 hn16 _ _ _ _ _ _ _ _ _  _ _  (by omega) (by omega) hf
set_option maxHeartbeats 4000000 in
set_option maxRecDepth 100000 in
theorem qL_finds_490 {p : Program} {l : Launch} {e : Env} {s : State} {m : MethodId} {args : Array Value} {below : List Frame} {meth : Method} {c : Code} {ρ : bsR} {sc L : Nat} {xs : Nat → Int32} {cA : Nat → ClassId} {dC : Nat → ClassId} {dI : Nat → Nat → Nat} {A : Nat → Prop} {Ts : List Cond} {σ : xA2} {F : va_W} (k16 : Int32 → Int32 → Int32 → Int32 → Int32 → Int32 → bsX → pY → Option (Int32 × bsX × pY)) {z : (Int32 × bsX × pY)} (C : xCx p m c cL_finds 13 s args Ts RL ρ sc L xs cA dC dI A meth (some .boolean)) (hst : l.stackTraces = false) {NC16 NS16 : Nat} (hk16 : ∀ (x2 : Int32) (x3 : Int32) (x4 : Int32) (x5 : Int32) (x6 : Int32) (x7 : Int32) (X : bsX) (Z : pY) (θ : xA2) (cl sl : Nat), cl + NC16 ≤ 104 → sl + NS16 ≤ 624 → k16 x2 x3 x4 x5 x6 x7 X Z = some z → xV p l e rmL_finds s m args below meth c cl sl (MQ below (xQi ρ cA dC dI A (fun r X' R' => r = z.1 ∧ X' = z.2.1 ∧ ∃ θ' : xA2, R' = lwWs σ θ' cA z.2.2 ++ F)) args s rmL_finds.cells rmL_finds.slots A) ρ cA dC dI A (lwWs σ θ cA Z ++ (F ++ [])) 13 16 [(0, .ref (ρ 13 0 0)), (1, .ref (σ 0 0)), (2, .int x2), (3, .int x3), (4, .int x4), (5, .int x5), (6, .int x6), (7, .int x7)] [] X) (hn16 : 8 ≤ NC16 ∧ 48 ≤ NS16)  : ∀ (x2 : Int32) (x3 : Int32) (x4 : Int32) (x5 : Int32) (x6 : Int32) (x7 : Int32) (q8 : Nat) (X : bsX) (Z : pY) (θ : xA2) (cl sl : Nat), q8 < ln Z → cl + ((0 + NC16)) ≤ 104 → sl + ((0 + NS16)) ≤ 624 → hL_finds_490 k16 x2 x3 x4 x5 x6 x7 q8 X Z = some z → xV p l e rmL_finds s m args below meth c cl sl (MQ below (xQi ρ cA dC dI A (fun r X' R' => r = z.1 ∧ X' = z.2.1 ∧ ∃ θ' : xA2, R' = lwWs σ θ' cA z.2.2 ++ F)) args s rmL_finds.cells rmL_finds.slots A) ρ cA dC dI A (lwWs σ θ cA Z ++ (F ++ [])) 13 490 [(0, .ref (ρ 13 0 0)), (1, .ref (σ 0 0)), (2, .int x2), (3, .int x3), (4, .int x4), (5, .int x5), (6, .int x6), (7, .int x7), (8, .ref (σ 5 q8))] [] X := by
  intro x2 x3 x4 x5 x6 x7 q8 X Z θ cl sl hq8 hcl hsl hf
  rw [hL_finds_490] at hf
  refine x_aload C dL_finds_490 rfl ?_
  obtain ⟨r142, hc143, hf⟩ := bs_bind hf
  obtain ⟨q0, he⟩ := xr_plc (Z := Z) σ θ cA (F ++ []) hq8
  refine x_callVi (y := yX10_isEmpty) (As := []) (rest := []) C (cX10_isEmpty_ok (F := F ++ []) hq8 hc143) ml_L_164 wyX10_isEmpty he rfl dpX10_isEmpty ⟨Nat.le_of_ble_eq_true rfl, Nat.le_of_ble_eq_true rfl⟩ ⟨by show (cl) + 0 ≤ 104; omega, by show (sl) + (0) ≤ 624; omega⟩ rfl (Nat.le_of_ble_eq_true rfl) dL_finds_492 (fun r' X' R' hp => ?_)
  obtain ⟨rfl, rfl, θ, rfl⟩ := hp
  refine x_widen (k := (cl)) (n := (sl)) (by show (cl) + 0 ≤ _; omega) (by show (sl) + (0) ≤ _; omega) ?_
  refine x_if_ne (tgt := 546) C dL_finds_495 (by decide) (fun h150 => ?_) (fun h150 => ?_)
  · replace hf := bs_neg h150 hf
    refine x_sub [0, 1, 2, 3, 4, 5, 6, 7] rfl ?_
    exact qL_finds_546 k16 C hst hk16 hn16 _ _ _ _ _ _ _ _ _  _ _  (by omega) (by omega) hf
  · replace hf := bs_pos h150 hf
    refine x_aload C dL_finds_498 rfl ?_
    obtain ⟨hg145, hf⟩ := bs_if hf
    refine xg_L_183 C hg145 dL_finds_500 ?_
    refine x_iconst (v := 3) C dL_finds_503 (by decide) ?_
    refine xl_img C hg145 (by decide) dL_finds_504 ?_
    refine x_if_ne (tgt := 546) C dL_finds_505 (by decide) (fun h149 => ?_) (fun h149 => ?_)
    · replace hf := bs_neg h149 hf
      refine x_sub [0, 1, 2, 3, 4, 5, 6, 7] rfl ?_
      exact qL_finds_546 k16 C hst hk16 hn16 _ _ _ _ _ _ _ _ _  _ _  (by omega) (by omega) hf
    · replace hf := bs_pos h149 hf
      refine x_aload C dL_finds_508 rfl ?_
      refine xg_L_168 C hg145 dL_finds_510 ?_
      refine x_if_le (tgt := 546) C dL_finds_513 (by decide) (fun h148 => ?_) (fun h148 => ?_)
      · replace hf := bs_pos h148 hf
        refine x_sub [0, 1, 2, 3, 4, 5, 6, 7] rfl ?_
        exact qL_finds_546 k16 C hst hk16 hn16 _ _ _ _ _ _ _ _ _  _ _  (by omega) (by omega) hf
      · replace hf := bs_neg h148 hf
        refine x_aload C dL_finds_516 rfl ?_
        refine xg_L_123 C hg145 dL_finds_518 ?_
        refine x_if_ne (tgt := 532) C dL_finds_521 (by decide) (fun h147 => ?_) (fun h147 => ?_)
        · replace hf := bs_neg h147 hf
          refine x_sub [0, 1, 2, 3, 4, 5, 6, 7, 8] rfl ?_
          exact qL_finds_532 k16 C hst hk16 hn16 _ _ _ _ _ _ _ _ _ _  _ _ hg145 (by omega) (by omega) hf
        · replace hf := bs_pos h147 hf
          refine x_aload C dL_finds_524 rfl ?_
          refine xg_L_129 C hg145 dL_finds_526 ?_
          refine x_if_le (tgt := 546) C dL_finds_529 (by decide) (fun h146 => ?_) (fun h146 => ?_)
          · replace hf := bs_pos h146 hf
            refine x_sub [0, 1, 2, 3, 4, 5, 6, 7] rfl ?_
            exact qL_finds_546 k16 C hst hk16 hn16 _ _ _ _ _ _ _ _ _  _ _  (by omega) (by omega) hf
          · replace hf := bs_neg h146 hf
            refine x_sub [0, 1, 2, 3, 4, 5, 6, 7, 8] rfl ?_
            exact qL_finds_532 k16 C hst hk16 hn16 _ _ _ _ _ _ _ _ _ _  _ _ hg145 (by omega) (by omega) hf
set_option maxHeartbeats 4000000 in
set_option maxRecDepth 100000 in
theorem qL_finds_486 {p : Program} {l : Launch} {e : Env} {s : State} {m : MethodId} {args : Array Value} {below : List Frame} {meth : Method} {c : Code} {ρ : bsR} {sc L : Nat} {xs : Nat → Int32} {cA : Nat → ClassId} {dC : Nat → ClassId} {dI : Nat → Nat → Nat} {A : Nat → Prop} {Ts : List Cond} {σ : xA2} {F : va_W} (k16 : Int32 → Int32 → Int32 → Int32 → Int32 → Int32 → bsX → pY → Option (Int32 × bsX × pY)) {z : (Int32 × bsX × pY)} (C : xCx p m c cL_finds 13 s args Ts RL ρ sc L xs cA dC dI A meth (some .boolean)) (hst : l.stackTraces = false) {NC16 NS16 : Nat} (hk16 : ∀ (x2 : Int32) (x3 : Int32) (x4 : Int32) (x5 : Int32) (x6 : Int32) (x7 : Int32) (X : bsX) (Z : pY) (θ : xA2) (cl sl : Nat), cl + NC16 ≤ 104 → sl + NS16 ≤ 624 → k16 x2 x3 x4 x5 x6 x7 X Z = some z → xV p l e rmL_finds s m args below meth c cl sl (MQ below (xQi ρ cA dC dI A (fun r X' R' => r = z.1 ∧ X' = z.2.1 ∧ ∃ θ' : xA2, R' = lwWs σ θ' cA z.2.2 ++ F)) args s rmL_finds.cells rmL_finds.slots A) ρ cA dC dI A (lwWs σ θ cA Z ++ (F ++ [])) 13 16 [(0, .ref (ρ 13 0 0)), (1, .ref (σ 0 0)), (2, .int x2), (3, .int x3), (4, .int x4), (5, .int x5), (6, .int x6), (7, .int x7)] [] X) (hn16 : 8 ≤ NC16 ∧ 48 ≤ NS16)  : ∀ (x2 : Int32) (x3 : Int32) (x4 : Int32) (x6 : Int32) (x7 : Int32) (q8 : Nat) (X : bsX) (Z : pY) (θ : xA2) (cl sl : Nat), q8 < ln Z → cl + ((0 + NC16)) ≤ 104 → sl + ((0 + NS16)) ≤ 624 → hL_finds_486 k16 x2 x3 x4 x6 x7 q8 X Z = some z → xV p l e rmL_finds s m args below meth c cl sl (MQ below (xQi ρ cA dC dI A (fun r X' R' => r = z.1 ∧ X' = z.2.1 ∧ ∃ θ' : xA2, R' = lwWs σ θ' cA z.2.2 ++ F)) args s rmL_finds.cells rmL_finds.slots A) ρ cA dC dI A (lwWs σ θ cA Z ++ (F ++ [])) 13 486 [(0, .ref (ρ 13 0 0)), (1, .ref (σ 0 0)), (2, .int x2), (3, .int x3), (4, .int x4), (6, .int x6), (7, .int x7), (8, .ref (σ 5 q8))] [] X := by
  intro x2 x3 x4 x6 x7 q8 X Z θ cl sl hq8 hcl hsl hf
  rw [hL_finds_486] at hf
  refine x_iload C dL_finds_486 rfl ?_
  refine x_istore (lv' := [(5, .int x7), (0, .ref (ρ 13 0 0)), (1, .ref (σ 0 0)), (2, .int x2), (3, .int x3), (4, .int x4), (6, .int x6), (7, .int x7), (8, .ref (σ 5 q8))]) C dL_finds_488 (by decide) rfl ?_
  refine x_sub [1, 2, 3, 4, 5, 0, 6, 7, 8] rfl ?_
  exact qL_finds_490 k16 C hst hk16 hn16 _ _ _ _ _ _ _ _ _ _  _ _ hq8 (by omega) (by omega) hf
set_option maxHeartbeats 4000000 in
set_option maxRecDepth 100000 in
theorem qL_finds_443 {p : Program} {l : Launch} {e : Env} {s : State} {m : MethodId} {args : Array Value} {below : List Frame} {meth : Method} {c : Code} {ρ : bsR} {sc L : Nat} {xs : Nat → Int32} {cA : Nat → ClassId} {dC : Nat → ClassId} {dI : Nat → Nat → Nat} {A : Nat → Prop} {Ts : List Cond} {σ : xA2} {F : va_W} (k16 : Int32 → Int32 → Int32 → Int32 → Int32 → Int32 → bsX → pY → Option (Int32 × bsX × pY)) {z : (Int32 × bsX × pY)} (C : xCx p m c cL_finds 13 s args Ts RL ρ sc L xs cA dC dI A meth (some .boolean)) (hst : l.stackTraces = false) {NC16 NS16 : Nat} (hk16 : ∀ (x2 : Int32) (x3 : Int32) (x4 : Int32) (x5 : Int32) (x6 : Int32) (x7 : Int32) (X : bsX) (Z : pY) (θ : xA2) (cl sl : Nat), cl + NC16 ≤ 104 → sl + NS16 ≤ 624 → k16 x2 x3 x4 x5 x6 x7 X Z = some z → xV p l e rmL_finds s m args below meth c cl sl (MQ below (xQi ρ cA dC dI A (fun r X' R' => r = z.1 ∧ X' = z.2.1 ∧ ∃ θ' : xA2, R' = lwWs σ θ' cA z.2.2 ++ F)) args s rmL_finds.cells rmL_finds.slots A) ρ cA dC dI A (lwWs σ θ cA Z ++ (F ++ [])) 13 16 [(0, .ref (ρ 13 0 0)), (1, .ref (σ 0 0)), (2, .int x2), (3, .int x3), (4, .int x4), (5, .int x5), (6, .int x6), (7, .int x7)] [] X) (hn16 : 8 ≤ NC16 ∧ 48 ≤ NS16)  : ∀ (x2 : Int32) (x3 : Int32) (x5 : Int32) (x6 : Int32) (x7 : Int32) (q8 : Nat) (y0 : Int32) (y1 : Int32) (X : bsX) (Z : pY) (θ : xA2) (cl sl : Nat), q8 < ln Z → cl + ((0 + NC16)) ≤ 104 → sl + ((0 + NS16)) ≤ 624 → hL_finds_443 k16 x2 x3 x5 x6 x7 q8 y0 y1 X Z = some z → xV p l e rmL_finds s m args below meth c cl sl (MQ below (xQi ρ cA dC dI A (fun r X' R' => r = z.1 ∧ X' = z.2.1 ∧ ∃ θ' : xA2, R' = lwWs σ θ' cA z.2.2 ++ F)) args s rmL_finds.cells rmL_finds.slots A) ρ cA dC dI A (lwWs σ θ cA Z ++ (F ++ [])) 13 443 [(0, .ref (ρ 13 0 0)), (1, .ref (σ 0 0)), (2, .int x2), (3, .int x3), (5, .int x5), (6, .int x6), (7, .int x7), (8, .ref (σ 5 q8))] [.int y1, .int y0] X := by
  intro x2 x3 x5 x6 x7 q8 y0 y1 X Z θ cl sl hq8 hcl hsl hf
  rw [hL_finds_443] at hf
  refine x_iadd C dL_finds_443 ?_
  refine x_istore (lv' := [(4, .int (y0 + y1)), (0, .ref (ρ 13 0 0)), (1, .ref (σ 0 0)), (2, .int x2), (3, .int x3), (5, .int x5), (6, .int x6), (7, .int x7), (8, .ref (σ 5 q8))]) C dL_finds_444 (by decide) rfl ?_
  refine x_aload_n C dL_finds_446 rfl rfl ?_
  refine x_iload C dL_finds_447 rfl ?_
  obtain ⟨r123, hc124, hf⟩ := bs_bind hf
  obtain ⟨q0, he⟩ := xr_wor σ θ cA Z (F ++ [])
  refine x_callVi (y := yX11_why) (As := [.int x7]) (rest := []) C (cX11_why_ok (F := F ++ [])  hc124) ml_L_120 wyX11_why he rfl dpX11_why ⟨Nat.le_of_ble_eq_true rfl, Nat.le_of_ble_eq_true rfl⟩ ⟨by show (cl) + 0 ≤ 104; omega, by show (sl) + (0) ≤ 624; omega⟩ rfl (Nat.le_of_ble_eq_true rfl) dL_finds_449 (fun r' X' R' hp => ?_)
  obtain ⟨rfl, rfl, θ, rfl⟩ := hp
  refine x_widen (k := (cl)) (n := (sl)) (by show (cl) + 0 ≤ _; omega) (by show (sl) + (0) ≤ _; omega) ?_
  refine x_if_ne (tgt := 490) C dL_finds_452 (by decide) (fun h132 => ?_) (fun h132 => ?_)
  · replace hf := bs_neg h132 hf
    obtain ⟨hg126, hf⟩ := bs_if hf
    refine x_sub [1, 2, 3, 4, 0, 5, 6, 7, 8] rfl ?_
    exact qL_finds_490 k16 C hst hk16 hn16 _ _ _ _ _ _ _ _ _ _  _ _ hg126 (by omega) (by omega) hf
  · replace hf := bs_pos h132 hf
    refine x_aload C dL_finds_455 rfl ?_
    obtain ⟨hg127, hf⟩ := bs_if hf
    refine xg_L_123 C hg127 dL_finds_457 ?_
    refine x_if_ne (tgt := 490) C dL_finds_460 (by decide) (fun h131 => ?_) (fun h131 => ?_)
    · replace hf := bs_neg h131 hf
      refine x_sub [1, 2, 3, 4, 0, 5, 6, 7, 8] rfl ?_
      exact qL_finds_490 k16 C hst hk16 hn16 _ _ _ _ _ _ _ _ _ _  _ _ hg127 (by omega) (by omega) hf
    · replace hf := bs_pos h131 hf
      refine x_iload C dL_finds_463 rfl ?_
      refine x_if_lt (tgt := 486) C dL_finds_465 (by decide) (fun h130 => ?_) (fun h130 => ?_)
      · replace hf := bs_pos h130 hf
        refine x_sub [1, 2, 3, 4, 0, 6, 7, 8] rfl ?_
        exact qL_finds_486 k16 C hst hk16 hn16 _ _ _ _ _ _ _ _ _  _ _ hg127 (by omega) (by omega) hf
      · replace hf := bs_neg h130 hf
        refine x_aload C dL_finds_468 rfl ?_
        refine xg_L_129 C hg127 dL_finds_470 ?_
        refine x_aload_n C dL_finds_473 rfl rfl ?_
        refine xg_L_114 C dL_finds_474 ?_
        refine x_iload C dL_finds_477 rfl ?_
        obtain ⟨hg128, hf⟩ := bs_if hf
        refine xa_plc C hg128 dL_finds_479 ?_
        refine xg_L_129 C (bsIx_lt hg128) dL_finds_480 ?_
        refine x_icmp_ge (tgt := 490) C dL_finds_483 (by decide) (fun h129 => ?_) (fun h129 => ?_)
        · replace hf := bs_pos h129 hf
          refine x_sub [1, 2, 3, 4, 0, 5, 6, 7, 8] rfl ?_
          exact qL_finds_490 k16 C hst hk16 hn16 _ _ _ _ _ _ _ _ _ _  _ _ hg127 (by omega) (by omega) hf
        · replace hf := bs_neg h129 hf
          refine x_sub [1, 2, 3, 4, 0, 6, 7, 8] rfl ?_
          exact qL_finds_486 k16 C hst hk16 hn16 _ _ _ _ _ _ _ _ _  _ _ hg127 (by omega) (by omega) hf
set_option maxHeartbeats 4000000 in
set_option maxRecDepth 100000 in
theorem qL_finds_421 {p : Program} {l : Launch} {e : Env} {s : State} {m : MethodId} {args : Array Value} {below : List Frame} {meth : Method} {c : Code} {ρ : bsR} {sc L : Nat} {xs : Nat → Int32} {cA : Nat → ClassId} {dC : Nat → ClassId} {dI : Nat → Nat → Nat} {A : Nat → Prop} {Ts : List Cond} {σ : xA2} {F : va_W} (k16 : Int32 → Int32 → Int32 → Int32 → Int32 → Int32 → bsX → pY → Option (Int32 × bsX × pY)) {z : (Int32 × bsX × pY)} (C : xCx p m c cL_finds 13 s args Ts RL ρ sc L xs cA dC dI A meth (some .boolean)) (hst : l.stackTraces = false) {NC16 NS16 : Nat} (hk16 : ∀ (x2 : Int32) (x3 : Int32) (x4 : Int32) (x5 : Int32) (x6 : Int32) (x7 : Int32) (X : bsX) (Z : pY) (θ : xA2) (cl sl : Nat), cl + NC16 ≤ 104 → sl + NS16 ≤ 624 → k16 x2 x3 x4 x5 x6 x7 X Z = some z → xV p l e rmL_finds s m args below meth c cl sl (MQ below (xQi ρ cA dC dI A (fun r X' R' => r = z.1 ∧ X' = z.2.1 ∧ ∃ θ' : xA2, R' = lwWs σ θ' cA z.2.2 ++ F)) args s rmL_finds.cells rmL_finds.slots A) ρ cA dC dI A (lwWs σ θ cA Z ++ (F ++ [])) 13 16 [(0, .ref (ρ 13 0 0)), (1, .ref (σ 0 0)), (2, .int x2), (3, .int x3), (4, .int x4), (5, .int x5), (6, .int x6), (7, .int x7)] [] X) (hn16 : 8 ≤ NC16 ∧ 48 ≤ NS16)  : ∀ (x2 : Int32) (x4 : Int32) (x5 : Int32) (x6 : Int32) (x7 : Int32) (q8 : Nat) (y0 : Int32) (y1 : Int32) (X : bsX) (Z : pY) (θ : xA2) (cl sl : Nat), q8 < ln Z → cl + ((0 + NC16)) ≤ 104 → sl + ((0 + NS16)) ≤ 624 → hL_finds_421 k16 x2 x4 x5 x6 x7 q8 y0 y1 X Z = some z → xV p l e rmL_finds s m args below meth c cl sl (MQ below (xQi ρ cA dC dI A (fun r X' R' => r = z.1 ∧ X' = z.2.1 ∧ ∃ θ' : xA2, R' = lwWs σ θ' cA z.2.2 ++ F)) args s rmL_finds.cells rmL_finds.slots A) ρ cA dC dI A (lwWs σ θ cA Z ++ (F ++ [])) 13 421 [(0, .ref (ρ 13 0 0)), (1, .ref (σ 0 0)), (2, .int x2), (4, .int x4), (5, .int x5), (6, .int x6), (7, .int x7), (8, .ref (σ 5 q8))] [.int y1, .int y0] X := by
  intro x2 x4 x5 x6 x7 q8 y0 y1 X Z θ cl sl hq8 hcl hsl hf
  rw [hL_finds_421] at hf
  refine x_ior C dL_finds_421 ?_
  refine x_istore_n (lv' := [(3, .int (y0 ||| y1)), (0, .ref (ρ 13 0 0)), (1, .ref (σ 0 0)), (2, .int x2), (4, .int x4), (5, .int x5), (6, .int x6), (7, .int x7), (8, .ref (σ 5 q8))]) C dL_finds_422 rfl (by decide) rfl ?_
  refine x_iload C dL_finds_423 rfl ?_
  refine x_aload_n C dL_finds_425 rfl rfl ?_
  refine x_iload C dL_finds_426 rfl ?_
  obtain ⟨r71, hc72, hf⟩ := bs_bind hf
  obtain ⟨q0, he⟩ := xr_wor σ θ cA Z (F ++ [])
  refine x_callVi (y := yX11_why) (As := [.int x7]) (rest := [.int x4]) C (cX11_why_ok (F := F ++ [])  hc72) ml_L_120 wyX11_why he rfl dpX11_why ⟨Nat.le_of_ble_eq_true rfl, Nat.le_of_ble_eq_true rfl⟩ ⟨by show (cl) + 0 ≤ 104; omega, by show (sl) + (0) ≤ 624; omega⟩ rfl (Nat.le_of_ble_eq_true rfl) dL_finds_428 (fun r' X' R' hp => ?_)
  obtain ⟨rfl, rfl, θ, rfl⟩ := hp
  refine x_widen (k := (cl)) (n := (sl)) (by show (cl) + 0 ≤ _; omega) (by show (sl) + (0) ≤ _; omega) ?_
  refine x_if_ne (tgt := 442) C dL_finds_431 (by decide) (fun h76 => ?_) (fun h76 => ?_)
  · replace hf := bs_neg h76 hf
    refine x_iconst (v := 0) C dL_finds_442 (by decide) ?_
    obtain ⟨hg74, hf⟩ := bs_if hf
    refine x_sub [1, 2, 3, 0, 5, 6, 7, 8] rfl ?_
    exact qL_finds_443 k16 C hst hk16 hn16 _ _ _ _ _ _ _ _ _ _ _  _ _ hg74 (by omega) (by omega) hf
  · replace hf := bs_pos h76 hf
    refine x_aload C dL_finds_434 rfl ?_
    obtain ⟨hg75, hf⟩ := bs_if hf
    refine xg_L_129 C hg75 dL_finds_436 ?_
    refine x_goto (tgt := 443) C dL_finds_439 (by decide) ?_
    refine x_sub [1, 2, 3, 0, 5, 6, 7, 8] rfl ?_
    exact qL_finds_443 k16 C hst hk16 hn16 _ _ _ _ _ _ _ _ _ _ _  _ _ hg75 (by omega) (by omega) hf
set_option maxHeartbeats 4000000 in
set_option maxRecDepth 100000 in
theorem qL_finds_420 {p : Program} {l : Launch} {e : Env} {s : State} {m : MethodId} {args : Array Value} {below : List Frame} {meth : Method} {c : Code} {ρ : bsR} {sc L : Nat} {xs : Nat → Int32} {cA : Nat → ClassId} {dC : Nat → ClassId} {dI : Nat → Nat → Nat} {A : Nat → Prop} {Ts : List Cond} {σ : xA2} {F : va_W} (k16 : Int32 → Int32 → Int32 → Int32 → Int32 → Int32 → bsX → pY → Option (Int32 × bsX × pY)) {z : (Int32 × bsX × pY)} (C : xCx p m c cL_finds 13 s args Ts RL ρ sc L xs cA dC dI A meth (some .boolean)) (hst : l.stackTraces = false) {NC16 NS16 : Nat} (hk16 : ∀ (x2 : Int32) (x3 : Int32) (x4 : Int32) (x5 : Int32) (x6 : Int32) (x7 : Int32) (X : bsX) (Z : pY) (θ : xA2) (cl sl : Nat), cl + NC16 ≤ 104 → sl + NS16 ≤ 624 → k16 x2 x3 x4 x5 x6 x7 X Z = some z → xV p l e rmL_finds s m args below meth c cl sl (MQ below (xQi ρ cA dC dI A (fun r X' R' => r = z.1 ∧ X' = z.2.1 ∧ ∃ θ' : xA2, R' = lwWs σ θ' cA z.2.2 ++ F)) args s rmL_finds.cells rmL_finds.slots A) ρ cA dC dI A (lwWs σ θ cA Z ++ (F ++ [])) 13 16 [(0, .ref (ρ 13 0 0)), (1, .ref (σ 0 0)), (2, .int x2), (3, .int x3), (4, .int x4), (5, .int x5), (6, .int x6), (7, .int x7)] [] X) (hn16 : 8 ≤ NC16 ∧ 48 ≤ NS16)  : ∀ (x2 : Int32) (x4 : Int32) (x5 : Int32) (x6 : Int32) (x7 : Int32) (q8 : Nat) (y0 : Int32) (X : bsX) (Z : pY) (θ : xA2) (cl sl : Nat), q8 < ln Z → cl + ((0 + NC16)) ≤ 104 → sl + ((0 + NS16)) ≤ 624 → hL_finds_420 k16 x2 x4 x5 x6 x7 q8 y0 X Z = some z → xV p l e rmL_finds s m args below meth c cl sl (MQ below (xQi ρ cA dC dI A (fun r X' R' => r = z.1 ∧ X' = z.2.1 ∧ ∃ θ' : xA2, R' = lwWs σ θ' cA z.2.2 ++ F)) args s rmL_finds.cells rmL_finds.slots A) ρ cA dC dI A (lwWs σ θ cA Z ++ (F ++ [])) 13 420 [(0, .ref (ρ 13 0 0)), (1, .ref (σ 0 0)), (2, .int x2), (4, .int x4), (5, .int x5), (6, .int x6), (7, .int x7), (8, .ref (σ 5 q8))] [.int y0] X := by
  intro x2 x4 x5 x6 x7 q8 y0 X Z θ cl sl hq8 hcl hsl hf
  rw [hL_finds_420] at hf
  refine x_iconst (v := 0) C dL_finds_420 (by decide) ?_
  refine x_sub [0, 1, 2, 3, 4, 5, 6, 7] rfl ?_
  exact qL_finds_421 k16 C hst hk16 hn16 _ _ _ _ _ _ _ _ _ _ _  _ _ hq8 (by omega) (by omega) hf
set_option maxHeartbeats 4000000 in
set_option maxRecDepth 100000 in
theorem qL_finds_390 {p : Program} {l : Launch} {e : Env} {s : State} {m : MethodId} {args : Array Value} {below : List Frame} {meth : Method} {c : Code} {ρ : bsR} {sc L : Nat} {xs : Nat → Int32} {cA : Nat → ClassId} {dC : Nat → ClassId} {dI : Nat → Nat → Nat} {A : Nat → Prop} {Ts : List Cond} {σ : xA2} {F : va_W} (k16 : Int32 → Int32 → Int32 → Int32 → Int32 → Int32 → bsX → pY → Option (Int32 × bsX × pY)) {z : (Int32 × bsX × pY)} (C : xCx p m c cL_finds 13 s args Ts RL ρ sc L xs cA dC dI A meth (some .boolean)) (hst : l.stackTraces = false) {NC16 NS16 : Nat} (hk16 : ∀ (x2 : Int32) (x3 : Int32) (x4 : Int32) (x5 : Int32) (x6 : Int32) (x7 : Int32) (X : bsX) (Z : pY) (θ : xA2) (cl sl : Nat), cl + NC16 ≤ 104 → sl + NS16 ≤ 624 → k16 x2 x3 x4 x5 x6 x7 X Z = some z → xV p l e rmL_finds s m args below meth c cl sl (MQ below (xQi ρ cA dC dI A (fun r X' R' => r = z.1 ∧ X' = z.2.1 ∧ ∃ θ' : xA2, R' = lwWs σ θ' cA z.2.2 ++ F)) args s rmL_finds.cells rmL_finds.slots A) ρ cA dC dI A (lwWs σ θ cA Z ++ (F ++ [])) 13 16 [(0, .ref (ρ 13 0 0)), (1, .ref (σ 0 0)), (2, .int x2), (3, .int x3), (4, .int x4), (5, .int x5), (6, .int x6), (7, .int x7)] [] X) (hn16 : 8 ≤ NC16 ∧ 48 ≤ NS16)  : ∀ (x2 : Int32) (x3 : Int32) (x4 : Int32) (x5 : Int32) (x6 : Int32) (x7 : Int32) (q8 : Nat) (X : bsX) (Z : pY) (θ : xA2) (cl sl : Nat), q8 < ln Z → cl + ((0 + NC16)) ≤ 104 → sl + ((0 + NS16)) ≤ 624 → hL_finds_390 k16 x2 x3 x4 x5 x6 x7 q8 X Z = some z → xV p l e rmL_finds s m args below meth c cl sl (MQ below (xQi ρ cA dC dI A (fun r X' R' => r = z.1 ∧ X' = z.2.1 ∧ ∃ θ' : xA2, R' = lwWs σ θ' cA z.2.2 ++ F)) args s rmL_finds.cells rmL_finds.slots A) ρ cA dC dI A (lwWs σ θ cA Z ++ (F ++ [])) 13 390 [(0, .ref (ρ 13 0 0)), (1, .ref (σ 0 0)), (2, .int x2), (3, .int x3), (4, .int x4), (5, .int x5), (6, .int x6), (7, .int x7), (8, .ref (σ 5 q8))] [] X := by
  intro x2 x3 x4 x5 x6 x7 q8 X Z θ cl sl hq8 hcl hsl hf
  rw [hL_finds_390] at hf
  refine x_iload_n C dL_finds_390 rfl rfl ?_
  refine x_aload C dL_finds_391 rfl ?_
  obtain ⟨r17, hc18, hf⟩ := bs_bind hf
  obtain ⟨q0, he⟩ := xr_plc (Z := Z) σ θ cA (F ++ []) hq8
  refine x_callVi (y := yX10_isEmpty) (As := []) (rest := [.int x3]) C (cX10_isEmpty_ok (F := F ++ []) hq8 hc18) ml_L_164 wyX10_isEmpty he rfl dpX10_isEmpty ⟨Nat.le_of_ble_eq_true rfl, Nat.le_of_ble_eq_true rfl⟩ ⟨by show (cl) + 0 ≤ 104; omega, by show (sl) + (0) ≤ 624; omega⟩ rfl (Nat.le_of_ble_eq_true rfl) dL_finds_393 (fun r' X' R' hp => ?_)
  obtain ⟨rfl, rfl, θ, rfl⟩ := hp
  refine x_widen (k := (cl)) (n := (sl)) (by show (cl) + 0 ≤ _; omega) (by show (sl) + (0) ≤ _; omega) ?_
  refine x_if_ne (tgt := 420) C dL_finds_396 (by decide) (fun h23 => ?_) (fun h23 => ?_)
  · replace hf := bs_neg h23 hf
    obtain ⟨hg20, hf⟩ := bs_if hf
    refine x_sub [0, 1, 2, 4, 5, 6, 7, 8] rfl ?_
    exact qL_finds_420 k16 C hst hk16 hn16 _ _ _ _ _ _ _ _ _ _  _ _ hg20 (by omega) (by omega) hf
  · replace hf := bs_pos h23 hf
    refine x_aload C dL_finds_399 rfl ?_
    obtain ⟨hg21, hf⟩ := bs_if hf
    refine xg_L_183 C hg21 dL_finds_401 ?_
    refine x_iconst (v := 0) C dL_finds_404 (by decide) ?_
    refine xl_img C hg21 (by decide) dL_finds_405 ?_
    refine x_aload_n C dL_finds_406 rfl rfl ?_
    refine xg_L_145 C dL_finds_407 ?_
    refine x_icmp_ge (tgt := 420) C dL_finds_410 (by decide) (fun h22 => ?_) (fun h22 => ?_)
    · replace hf := bs_pos h22 hf
      refine x_sub [0, 1, 2, 4, 5, 6, 7, 8] rfl ?_
      exact qL_finds_420 k16 C hst hk16 hn16 _ _ _ _ _ _ _ _ _ _  _ _ hg21 (by omega) (by omega) hf
    · replace hf := bs_neg h22 hf
      refine x_iconst (v := 1) C dL_finds_413 (by decide) ?_
      refine x_iload C dL_finds_414 rfl ?_
      refine x_ishl C dL_finds_416 ?_
      refine x_goto (tgt := 421) C dL_finds_417 (by decide) ?_
      refine x_sub [0, 1, 2, 4, 5, 6, 7, 8] rfl ?_
      exact qL_finds_421 k16 C hst hk16 hn16 _ _ _ _ _ _ _ _ _ _ _  _ _ hg21 (by omega) (by omega) hf
set_option maxHeartbeats 4000000 in
set_option maxRecDepth 100000 in
theorem qL_finds_387 {p : Program} {l : Launch} {e : Env} {s : State} {m : MethodId} {args : Array Value} {below : List Frame} {meth : Method} {c : Code} {ρ : bsR} {sc L : Nat} {xs : Nat → Int32} {cA : Nat → ClassId} {dC : Nat → ClassId} {dI : Nat → Nat → Nat} {A : Nat → Prop} {Ts : List Cond} {σ : xA2} {F : va_W} (k16 : Int32 → Int32 → Int32 → Int32 → Int32 → Int32 → bsX → pY → Option (Int32 × bsX × pY)) {z : (Int32 × bsX × pY)} (C : xCx p m c cL_finds 13 s args Ts RL ρ sc L xs cA dC dI A meth (some .boolean)) (hst : l.stackTraces = false) {NC16 NS16 : Nat} (hk16 : ∀ (x2 : Int32) (x3 : Int32) (x4 : Int32) (x5 : Int32) (x6 : Int32) (x7 : Int32) (X : bsX) (Z : pY) (θ : xA2) (cl sl : Nat), cl + NC16 ≤ 104 → sl + NS16 ≤ 624 → k16 x2 x3 x4 x5 x6 x7 X Z = some z → xV p l e rmL_finds s m args below meth c cl sl (MQ below (xQi ρ cA dC dI A (fun r X' R' => r = z.1 ∧ X' = z.2.1 ∧ ∃ θ' : xA2, R' = lwWs σ θ' cA z.2.2 ++ F)) args s rmL_finds.cells rmL_finds.slots A) ρ cA dC dI A (lwWs σ θ cA Z ++ (F ++ [])) 13 16 [(0, .ref (ρ 13 0 0)), (1, .ref (σ 0 0)), (2, .int x2), (3, .int x3), (4, .int x4), (5, .int x5), (6, .int x6), (7, .int x7)] [] X) (hn16 : 8 ≤ NC16 ∧ 48 ≤ NS16)  : ∀ (x3 : Int32) (x4 : Int32) (x5 : Int32) (x6 : Int32) (x7 : Int32) (q8 : Nat) (X : bsX) (Z : pY) (θ : xA2) (cl sl : Nat), q8 < ln Z → cl + ((0 + NC16)) ≤ 104 → sl + ((0 + NS16)) ≤ 624 → hL_finds_387 k16 x3 x4 x5 x6 x7 q8 X Z = some z → xV p l e rmL_finds s m args below meth c cl sl (MQ below (xQi ρ cA dC dI A (fun r X' R' => r = z.1 ∧ X' = z.2.1 ∧ ∃ θ' : xA2, R' = lwWs σ θ' cA z.2.2 ++ F)) args s rmL_finds.cells rmL_finds.slots A) ρ cA dC dI A (lwWs σ θ cA Z ++ (F ++ [])) 13 387 [(0, .ref (ρ 13 0 0)), (1, .ref (σ 0 0)), (3, .int x3), (4, .int x4), (5, .int x5), (6, .int x6), (7, .int x7), (8, .ref (σ 5 q8))] [] X := by
  intro x3 x4 x5 x6 x7 q8 X Z θ cl sl hq8 hcl hsl hf
  rw [hL_finds_387] at hf
  refine x_iload C dL_finds_387 rfl ?_
  refine x_istore_n (lv' := [(2, .int x7), (0, .ref (ρ 13 0 0)), (1, .ref (σ 0 0)), (3, .int x3), (4, .int x4), (5, .int x5), (6, .int x6), (7, .int x7), (8, .ref (σ 5 q8))]) C dL_finds_389 rfl (by decide) rfl ?_
  refine x_sub [1, 2, 0, 3, 4, 5, 6, 7, 8] rfl ?_
  exact qL_finds_390 k16 C hst hk16 hn16 _ _ _ _ _ _ _ _ _ _  _ _ hq8 (by omega) (by omega) hf
set_option maxHeartbeats 4000000 in
set_option maxRecDepth 100000 in
theorem qL_finds_301 {p : Program} {l : Launch} {e : Env} {s : State} {m : MethodId} {args : Array Value} {below : List Frame} {meth : Method} {c : Code} {ρ : bsR} {sc L : Nat} {xs : Nat → Int32} {cA : Nat → ClassId} {dC : Nat → ClassId} {dI : Nat → Nat → Nat} {A : Nat → Prop} {Ts : List Cond} {σ : xA2} {F : va_W} (k16 : Int32 → Int32 → Int32 → Int32 → Int32 → Int32 → bsX → pY → Option (Int32 × bsX × pY)) {z : (Int32 × bsX × pY)} (C : xCx p m c cL_finds 13 s args Ts RL ρ sc L xs cA dC dI A meth (some .boolean)) (hst : l.stackTraces = false) {NC16 NS16 : Nat} (hk16 : ∀ (x2 : Int32) (x3 : Int32) (x4 : Int32) (x5 : Int32) (x6 : Int32) (x7 : Int32) (X : bsX) (Z : pY) (θ : xA2) (cl sl : Nat), cl + NC16 ≤ 104 → sl + NS16 ≤ 624 → k16 x2 x3 x4 x5 x6 x7 X Z = some z → xV p l e rmL_finds s m args below meth c cl sl (MQ below (xQi ρ cA dC dI A (fun r X' R' => r = z.1 ∧ X' = z.2.1 ∧ ∃ θ' : xA2, R' = lwWs σ θ' cA z.2.2 ++ F)) args s rmL_finds.cells rmL_finds.slots A) ρ cA dC dI A (lwWs σ θ cA Z ++ (F ++ [])) 13 16 [(0, .ref (ρ 13 0 0)), (1, .ref (σ 0 0)), (2, .int x2), (3, .int x3), (4, .int x4), (5, .int x5), (6, .int x6), (7, .int x7)] [] X) (hn16 : 8 ≤ NC16 ∧ 48 ≤ NS16)  : ∀ (x2 : Int32) (x3 : Int32) (x4 : Int32) (x5 : Int32) (x6 : Int32) (x7 : Int32) (q8 : Nat) (x10 : Int32) (x11 : Int32) (x12 : Int32) (y0 : Int32) (y1 : Int32) (X : bsX) (Z : pY) (θ : xA2) (cl sl : Nat), q8 < ln Z → cl + ((8 + NC16)) ≤ 104 → sl + ((48 + NS16)) ≤ 624 → hL_finds_301 k16 x2 x3 x4 x5 x6 x7 q8 x10 x11 x12 y0 y1 X Z = some z → xV p l e rmL_finds s m args below meth c cl sl (MQ below (xQi ρ cA dC dI A (fun r X' R' => r = z.1 ∧ X' = z.2.1 ∧ ∃ θ' : xA2, R' = lwWs σ θ' cA z.2.2 ++ F)) args s rmL_finds.cells rmL_finds.slots A) ρ cA dC dI A (lwWs σ θ cA Z ++ (F ++ [])) 13 301 [(0, .ref (ρ 13 0 0)), (1, .ref (σ 0 0)), (2, .int x2), (3, .int x3), (4, .int x4), (5, .int x5), (6, .int x6), (7, .int x7), (8, .ref (σ 5 q8)), (10, .int x10), (11, .int x11), (12, .int x12)] [.int y1, .int y0] X := by
  intro x2 x3 x4 x5 x6 x7 q8 x10 x11 x12 y0 y1 X Z θ cl sl hq8 hcl hsl hf
  rw [hL_finds_301] at hf
  refine x_icmp_ne (tgt := 352) C dL_finds_301 (by decide) (fun h107 => ?_) (fun h107 => ?_)
  · replace hf := bs_neg h107 hf
    refine x_iconst (v := 0) C dL_finds_352 (by decide) ?_
    obtain rfl := Option.some.inj hf
    refine xu_dropall ?_
    exact x_xret C (bsZ01 (by decide)).1 ⟨rfl, rfl, _, rfl⟩ (by show _ ≤ 104; omega) (by show _ ≤ 624; omega) dL_finds_353
  · replace hf := bs_pos h107 hf
    refine x_aload_n C dL_finds_304 rfl rfl ?_
    refine x_iload C dL_finds_305 rfl ?_
    obtain ⟨r77, hc78, hf⟩ := bs_bind hf
    obtain ⟨h079, hf⟩ := bs_if hf
    refine x_callT (y := yX8_twins) (As := [.int x7]) (rest := []) C (cX8_twins_ok hst hc78) h079 ml_L_229 wyX8_twins bsm_X8 bsc_X8 rfl dpX8_twins ⟨Nat.le_of_ble_eq_true rfl, Nat.le_of_ble_eq_true rfl⟩ ⟨by show (cl) + 2 ≤ 104; omega, by show (sl) + 12 ≤ 624; omega⟩ rfl (Nat.le_of_ble_eq_true rfl) dL_finds_307 ?_
    refine x_widen (k := (cl + 2)) (n := (sl + 12)) (by show (cl) + 2 ≤ _; omega) (by show (sl) + 12 ≤ _; omega) ?_
    refine x_iload C dL_finds_310 rfl ?_
    refine x_icmp_ne (tgt := 352) C dL_finds_312 (by decide) (fun h106 => ?_) (fun h106 => ?_)
    · replace hf := bs_neg h106 hf
      refine x_iconst (v := 0) C dL_finds_352 (by decide) ?_
      obtain rfl := Option.some.inj hf
      refine xu_dropall ?_
      exact x_xret C (bsZ01 (by decide)).1 ⟨rfl, rfl, _, rfl⟩ (by show _ ≤ 104; omega) (by show _ ≤ 624; omega) dL_finds_353
    · replace hf := bs_pos h106 hf
      refine x_aload_n C dL_finds_315 rfl rfl ?_
      refine x_iload C dL_finds_316 rfl ?_
      obtain ⟨r80, hc81, hf⟩ := bs_bind hf
      obtain ⟨h082, hf⟩ := bs_if hf
      refine x_callT (y := yX8_bootsOf) (As := [.int x7]) (rest := []) C (cX8_bootsOf_ok hst hc81) h082 ml_L_232 wyX8_bootsOf bsm_X8 bsc_X8 rfl dpX8_bootsOf ⟨Nat.le_of_ble_eq_true rfl, Nat.le_of_ble_eq_true rfl⟩ ⟨by show (cl + 2) + 2 ≤ 104; omega, by show (sl + 12) + 12 ≤ 624; omega⟩ rfl (Nat.le_of_ble_eq_true rfl) dL_finds_318 ?_
      refine x_widen (k := (cl + 4)) (n := (sl + 24)) (by show (cl + 2) + 2 ≤ _; omega) (by show (sl + 12) + 12 ≤ _; omega) ?_
      refine x_iload C dL_finds_321 rfl ?_
      refine x_icmp_ne (tgt := 352) C dL_finds_323 (by decide) (fun h105 => ?_) (fun h105 => ?_)
      · replace hf := bs_neg h105 hf
        refine x_iconst (v := 0) C dL_finds_352 (by decide) ?_
        obtain rfl := Option.some.inj hf
        refine xu_dropall ?_
        exact x_xret C (bsZ01 (by decide)).1 ⟨rfl, rfl, _, rfl⟩ (by show _ ≤ 104; omega) (by show _ ≤ 624; omega) dL_finds_353
      · replace hf := bs_pos h105 hf
        refine x_aload_n C dL_finds_326 rfl rfl ?_
        refine x_iload C dL_finds_327 rfl ?_
        obtain ⟨r83, hc84, hf⟩ := bs_bind hf
        obtain ⟨h085, hf⟩ := bs_if hf
        refine x_callT (y := yX8_floorWith) (As := [.int x7]) (rest := []) C (cX8_floorWith_ok hst hc84) h085 ml_L_235 wyX8_floorWith bsm_X8 bsc_X8 rfl dpX8_floorWith ⟨Nat.le_of_ble_eq_true rfl, Nat.le_of_ble_eq_true rfl⟩ ⟨by show (cl + 4) + 2 ≤ 104; omega, by show (sl + 24) + 12 ≤ 624; omega⟩ rfl (Nat.le_of_ble_eq_true rfl) dL_finds_329 ?_
        refine x_widen (k := (cl + 6)) (n := (sl + 36)) (by show (cl + 4) + 2 ≤ _; omega) (by show (sl + 24) + 12 ≤ _; omega) ?_
        refine x_aload_n C dL_finds_332 rfl rfl ?_
        refine x_iload C dL_finds_333 rfl ?_
        obtain ⟨r86, hc87, hf⟩ := bs_bind hf
        obtain ⟨q0, he⟩ := xr_wor σ θ cA Z (F ++ [])
        refine x_callVi (y := yX11_floorWith) (As := [.int x7]) (rest := [.int r83.2.1]) C (cX11_floorWith_ok (F := F ++ [])  hc87) ml_L_238 wyX11_floorWith he rfl dpX11_floorWith ⟨Nat.le_of_ble_eq_true rfl, Nat.le_of_ble_eq_true rfl⟩ ⟨by show (cl + 6) + 0 ≤ 104; omega, by show (sl + 36) + (0) ≤ 624; omega⟩ rfl (Nat.le_of_ble_eq_true rfl) dL_finds_335 (fun r' X' R' hp => ?_)
        obtain ⟨rfl, rfl, θ, rfl⟩ := hp
        refine x_widen (k := (cl + 6)) (n := (sl + 36)) (by show (cl + 6) + 0 ≤ _; omega) (by show (sl + 36) + (0) ≤ _; omega) ?_
        refine x_icmp_ne (tgt := 352) C dL_finds_338 (by decide) (fun h104 => ?_) (fun h104 => ?_)
        · replace hf := bs_neg h104 hf
          refine x_iconst (v := 0) C dL_finds_352 (by decide) ?_
          obtain rfl := Option.some.inj hf
          refine xu_dropall ?_
          exact x_xret C (bsZ01 (by decide)).1 ⟨rfl, rfl, _, rfl⟩ (by show _ ≤ 104; omega) (by show _ ≤ 624; omega) dL_finds_353
        · replace hf := bs_pos h104 hf
          refine x_aload_n C dL_finds_341 rfl rfl ?_
          refine x_iload C dL_finds_342 rfl ?_
          obtain ⟨r89, hc90, hf⟩ := bs_bind hf
          obtain ⟨h091, hf⟩ := bs_if hf
          refine x_callT (y := yX8_mayHold) (As := [.int x7]) (rest := []) C (cX8_mayHold_ok hst hc90) h091 ml_L_239 wyX8_mayHold bsm_X8 bsc_X8 rfl dpX8_mayHold ⟨Nat.le_of_ble_eq_true rfl, Nat.le_of_ble_eq_true rfl⟩ ⟨by show (cl + 6) + 2 ≤ 104; omega, by show (sl + 36) + 12 ≤ 624; omega⟩ rfl (Nat.le_of_ble_eq_true rfl) dL_finds_344 ?_
          refine x_widen (k := (cl + 8)) (n := (sl + 48)) (by show (cl + 6) + 2 ≤ _; omega) (by show (sl + 36) + 12 ≤ _; omega) ?_
          refine x_iload C dL_finds_347 rfl ?_
          refine x_icmp_eq (tgt := 354) C dL_finds_349 (by decide) (fun h103 => ?_) (fun h103 => ?_)
          · replace hf := bs_pos h103 hf
            refine x_aload C dL_finds_354 rfl ?_
            obtain ⟨r92, hc93, hf⟩ := bs_bind hf
            obtain ⟨hg94, hf⟩ := bs_if hf
            obtain ⟨q0, he⟩ := xr_plc (Z := r86.2.2) σ θ cA (F ++ []) hg94
            refine x_callVi (y := yX10_isEmpty) (As := []) (rest := []) C (cX10_isEmpty_ok (F := F ++ []) hg94 hc93) ml_L_164 wyX10_isEmpty he rfl dpX10_isEmpty ⟨Nat.le_of_ble_eq_true rfl, Nat.le_of_ble_eq_true rfl⟩ ⟨by show (cl + 8) + 0 ≤ 104; omega, by show (sl + 48) + (0) ≤ 624; omega⟩ rfl (Nat.le_of_ble_eq_true rfl) dL_finds_356 (fun r' X' R' hp => ?_)
            obtain ⟨rfl, rfl, θ, rfl⟩ := hp
            refine x_widen (k := (cl + 8)) (n := (sl + 48)) (by show (cl + 8) + 0 ≤ _; omega) (by show (sl + 48) + (0) ≤ _; omega) ?_
            refine x_if_ne (tgt := 390) C dL_finds_359 (by decide) (fun h102 => ?_) (fun h102 => ?_)
            · replace hf := bs_neg h102 hf
              obtain ⟨hg96, hf⟩ := bs_if hf
              refine x_sub [0, 1, 2, 3, 4, 5, 6, 7, 8] rfl ?_
              exact qL_finds_390 k16 C hst hk16 hn16 _ _ _ _ _ _ _ _ _ _  _ _ hg96 (by omega) (by omega) hf
            · replace hf := bs_pos h102 hf
              refine x_iload_n C dL_finds_362 rfl rfl ?_
              refine x_if_lt (tgt := 387) C dL_finds_363 (by decide) (fun h101 => ?_) (fun h101 => ?_)
              · replace hf := bs_pos h101 hf
                obtain ⟨hg97, hf⟩ := bs_if hf
                refine x_sub [0, 1, 3, 4, 5, 6, 7, 8] rfl ?_
                exact qL_finds_387 k16 C hst hk16 hn16 _ _ _ _ _ _ _ _ _  _ _ hg97 (by omega) (by omega) hf
              · replace hf := bs_neg h101 hf
                refine x_aload C dL_finds_366 rfl ?_
                obtain ⟨hg98, hf⟩ := bs_if hf
                refine xg_L_183 C hg98 dL_finds_368 ?_
                refine x_iconst (v := 0) C dL_finds_371 (by decide) ?_
                refine xl_img C hg98 (by decide) dL_finds_372 ?_
                refine x_aload_n C dL_finds_373 rfl rfl ?_
                refine xg_L_114 C dL_finds_374 ?_
                refine x_iload_n C dL_finds_377 rfl rfl ?_
                obtain ⟨hg99, hf⟩ := bs_if hf
                refine xa_plc C hg99 dL_finds_378 ?_
                refine xg_L_183 C (bsIx_lt hg99) dL_finds_379 ?_
                refine x_iconst (v := 0) C dL_finds_382 (by decide) ?_
                refine xl_img C (bsIx_lt hg99) (by decide) dL_finds_383 ?_
                refine x_icmp_le (tgt := 390) C dL_finds_384 (by decide) (fun h100 => ?_) (fun h100 => ?_)
                · replace hf := bs_pos h100 hf
                  refine x_sub [0, 1, 2, 3, 4, 5, 6, 7, 8] rfl ?_
                  exact qL_finds_390 k16 C hst hk16 hn16 _ _ _ _ _ _ _ _ _ _  _ _ hg98 (by omega) (by omega) hf
                · replace hf := bs_neg h100 hf
                  refine x_sub [0, 1, 3, 4, 5, 6, 7, 8] rfl ?_
                  exact qL_finds_387 k16 C hst hk16 hn16 _ _ _ _ _ _ _ _ _  _ _ hg98 (by omega) (by omega) hf
          · replace hf := bs_neg h103 hf
            refine x_iconst (v := 0) C dL_finds_352 (by decide) ?_
            obtain rfl := Option.some.inj hf
            refine xu_dropall ?_
            exact x_xret C (bsZ01 (by decide)).1 ⟨rfl, rfl, _, rfl⟩ (by show _ ≤ 104; omega) (by show _ ≤ 624; omega) dL_finds_353
set_option maxHeartbeats 4000000 in
set_option maxRecDepth 100000 in
theorem qL_finds_263 {p : Program} {l : Launch} {e : Env} {s : State} {m : MethodId} {args : Array Value} {below : List Frame} {meth : Method} {c : Code} {ρ : bsR} {sc L : Nat} {xs : Nat → Int32} {cA : Nat → ClassId} {dC : Nat → ClassId} {dI : Nat → Nat → Nat} {A : Nat → Prop} {Ts : List Cond} {σ : xA2} {F : va_W} (k16 : Int32 → Int32 → Int32 → Int32 → Int32 → Int32 → bsX → pY → Option (Int32 × bsX × pY)) {z : (Int32 × bsX × pY)} (C : xCx p m c cL_finds 13 s args Ts RL ρ sc L xs cA dC dI A meth (some .boolean)) (hst : l.stackTraces = false) {NC16 NS16 : Nat} (hk16 : ∀ (x2 : Int32) (x3 : Int32) (x4 : Int32) (x5 : Int32) (x6 : Int32) (x7 : Int32) (X : bsX) (Z : pY) (θ : xA2) (cl sl : Nat), cl + NC16 ≤ 104 → sl + NS16 ≤ 624 → k16 x2 x3 x4 x5 x6 x7 X Z = some z → xV p l e rmL_finds s m args below meth c cl sl (MQ below (xQi ρ cA dC dI A (fun r X' R' => r = z.1 ∧ X' = z.2.1 ∧ ∃ θ' : xA2, R' = lwWs σ θ' cA z.2.2 ++ F)) args s rmL_finds.cells rmL_finds.slots A) ρ cA dC dI A (lwWs σ θ cA Z ++ (F ++ [])) 13 16 [(0, .ref (ρ 13 0 0)), (1, .ref (σ 0 0)), (2, .int x2), (3, .int x3), (4, .int x4), (5, .int x5), (6, .int x6), (7, .int x7)] [] X) (hn16 : 8 ≤ NC16 ∧ 48 ≤ NS16)  : ∀ (x2 : Int32) (x3 : Int32) (x4 : Int32) (x5 : Int32) (x6 : Int32) (x7 : Int32) (q8 : Nat) (x9 : Int32) (x10 : Int32) (x11 : Int32) (y0 : Int32) (X : bsX) (Z : pY) (θ : xA2) (cl sl : Nat), q8 < ln Z → cl + ((12 + NC16)) ≤ 104 → sl + ((72 + NS16)) ≤ 624 → hL_finds_263 k16 x2 x3 x4 x5 x6 x7 q8 x9 x10 x11 y0 X Z = some z → xV p l e rmL_finds s m args below meth c cl sl (MQ below (xQi ρ cA dC dI A (fun r X' R' => r = z.1 ∧ X' = z.2.1 ∧ ∃ θ' : xA2, R' = lwWs σ θ' cA z.2.2 ++ F)) args s rmL_finds.cells rmL_finds.slots A) ρ cA dC dI A (lwWs σ θ cA Z ++ (F ++ [])) 13 263 [(0, .ref (ρ 13 0 0)), (1, .ref (σ 0 0)), (2, .int x2), (3, .int x3), (4, .int x4), (5, .int x5), (6, .int x6), (7, .int x7), (8, .ref (σ 5 q8)), (9, .int x9), (10, .int x10), (11, .int x11)] [.int y0] X := by
  intro x2 x3 x4 x5 x6 x7 q8 x9 x10 x11 y0 X Z θ cl sl hq8 hcl hsl hf
  rw [hL_finds_263] at hf
  refine x_istore (lv' := [(12, .int y0), (0, .ref (ρ 13 0 0)), (1, .ref (σ 0 0)), (2, .int x2), (3, .int x3), (4, .int x4), (5, .int x5), (6, .int x6), (7, .int x7), (8, .ref (σ 5 q8)), (9, .int x9), (10, .int x10), (11, .int x11)]) C dL_finds_263 (by decide) rfl ?_
  refine x_aload_n C dL_finds_265 rfl rfl ?_
  refine x_iload C dL_finds_266 rfl ?_
  obtain ⟨r1, hc2, hf⟩ := bs_bind hf
  obtain ⟨h03, hf⟩ := bs_if hf
  refine x_callT (y := yX8_whyNot) (As := [.int x7]) (rest := []) C (cX8_whyNot_ok hst hc2) h03 ml_L_223 wyX8_whyNot bsm_X8 bsc_X8 rfl dpX8_whyNot ⟨Nat.le_of_ble_eq_true rfl, Nat.le_of_ble_eq_true rfl⟩ ⟨by show (cl) + 2 ≤ 104; omega, by show (sl) + 12 ≤ 624; omega⟩ rfl (Nat.le_of_ble_eq_true rfl) dL_finds_268 ?_
  refine x_widen (k := (cl + 2)) (n := (sl + 12)) (by show (cl) + 2 ≤ _; omega) (by show (sl) + 12 ≤ _; omega) ?_
  refine x_aload_n C dL_finds_271 rfl rfl ?_
  refine x_iload C dL_finds_272 rfl ?_
  obtain ⟨r4, hc5, hf⟩ := bs_bind hf
  obtain ⟨q0, he⟩ := xr_wor σ θ cA Z (F ++ [])
  refine x_callVi (y := yX11_why) (As := [.int x7]) (rest := [.int r1.2.1]) C (cX11_why_ok (F := F ++ [])  hc5) ml_L_120 wyX11_why he rfl dpX11_why ⟨Nat.le_of_ble_eq_true rfl, Nat.le_of_ble_eq_true rfl⟩ ⟨by show (cl + 2) + 0 ≤ 104; omega, by show (sl + 12) + (0) ≤ 624; omega⟩ rfl (Nat.le_of_ble_eq_true rfl) dL_finds_274 (fun r' X' R' hp => ?_)
  obtain ⟨rfl, rfl, θ, rfl⟩ := hp
  refine x_widen (k := (cl + 2)) (n := (sl + 12)) (by show (cl + 2) + 0 ≤ _; omega) (by show (sl + 12) + (0) ≤ _; omega) ?_
  refine x_icmp_ne (tgt := 352) C dL_finds_277 (by decide) (fun h16 => ?_) (fun h16 => ?_)
  · replace hf := bs_neg h16 hf
    refine x_iconst (v := 0) C dL_finds_352 (by decide) ?_
    obtain rfl := Option.some.inj hf
    refine xu_dropall ?_
    exact x_xret C (bsZ01 (by decide)).1 ⟨rfl, rfl, _, rfl⟩ (by show _ ≤ 104; omega) (by show _ ≤ 624; omega) dL_finds_353
  · replace hf := bs_pos h16 hf
    refine x_aload_n C dL_finds_280 rfl rfl ?_
    refine x_iload C dL_finds_281 rfl ?_
    obtain ⟨r7, hc8, hf⟩ := bs_bind hf
    obtain ⟨h09, hf⟩ := bs_if hf
    refine x_callT (y := yX8_place) (As := [.int x7]) (rest := []) C (cX8_place_ok hst hc8) h09 ml_L_226 wyX8_place bsm_X8 bsc_X8 rfl dpX8_place ⟨Nat.le_of_ble_eq_true rfl, Nat.le_of_ble_eq_true rfl⟩ ⟨by show (cl + 2) + 2 ≤ 104; omega, by show (sl + 12) + 12 ≤ 624; omega⟩ rfl (Nat.le_of_ble_eq_true rfl) dL_finds_283 ?_
    refine x_widen (k := (cl + 4)) (n := (sl + 24)) (by show (cl + 2) + 2 ≤ _; omega) (by show (sl + 12) + 12 ≤ _; omega) ?_
    refine x_aload_n C dL_finds_286 rfl rfl ?_
    refine x_iload C dL_finds_287 rfl ?_
    obtain ⟨r10, hc11, hf⟩ := bs_bind hf
    obtain ⟨q0, he⟩ := xr_wor σ θ cA r4.2.2 (F ++ [])
    refine x_callVi (y := yX11_why) (As := [.int x7]) (rest := [.int r7.2.1]) C (cX11_why_ok (F := F ++ [])  hc11) ml_L_120 wyX11_why he rfl dpX11_why ⟨Nat.le_of_ble_eq_true rfl, Nat.le_of_ble_eq_true rfl⟩ ⟨by show (cl + 4) + 0 ≤ 104; omega, by show (sl + 24) + (0) ≤ 624; omega⟩ rfl (Nat.le_of_ble_eq_true rfl) dL_finds_289 (fun r' X' R' hp => ?_)
    obtain ⟨rfl, rfl, θ, rfl⟩ := hp
    refine x_widen (k := (cl + 4)) (n := (sl + 24)) (by show (cl + 4) + 0 ≤ _; omega) (by show (sl + 24) + (0) ≤ _; omega) ?_
    refine x_if_ne (tgt := 300) C dL_finds_292 (by decide) (fun h15 => ?_) (fun h15 => ?_)
    · replace hf := bs_neg h15 hf
      refine x_iconst (v := -1) C dL_finds_300 (by decide) ?_
      obtain ⟨hg13, hf⟩ := bs_if hf
      refine x_sub [1, 2, 3, 4, 5, 6, 7, 8, 9, 11, 12, 0] rfl ?_
      exact qL_finds_301 k16 C hst hk16 hn16 _ _ _ _ _ _ _ _ _ _ _ _ _ _ _  _ _ hg13 (by omega) (by omega) hf
    · replace hf := bs_pos h15 hf
      refine x_iload C dL_finds_295 rfl ?_
      refine x_goto (tgt := 301) C dL_finds_297 (by decide) ?_
      obtain ⟨hg14, hf⟩ := bs_if hf
      refine x_sub [1, 2, 3, 4, 5, 6, 7, 8, 9, 11, 12, 0] rfl ?_
      exact qL_finds_301 k16 C hst hk16 hn16 _ _ _ _ _ _ _ _ _ _ _ _ _ _ _  _ _ hg14 (by omega) (by omega) hf
set_option maxHeartbeats 4000000 in
set_option maxRecDepth 100000 in
theorem qL_finds_258 {p : Program} {l : Launch} {e : Env} {s : State} {m : MethodId} {args : Array Value} {below : List Frame} {meth : Method} {c : Code} {ρ : bsR} {sc L : Nat} {xs : Nat → Int32} {cA : Nat → ClassId} {dC : Nat → ClassId} {dI : Nat → Nat → Nat} {A : Nat → Prop} {Ts : List Cond} {σ : xA2} {F : va_W} (k16 : Int32 → Int32 → Int32 → Int32 → Int32 → Int32 → bsX → pY → Option (Int32 × bsX × pY)) {z : (Int32 × bsX × pY)} (C : xCx p m c cL_finds 13 s args Ts RL ρ sc L xs cA dC dI A meth (some .boolean)) (hst : l.stackTraces = false) {NC16 NS16 : Nat} (hk16 : ∀ (x2 : Int32) (x3 : Int32) (x4 : Int32) (x5 : Int32) (x6 : Int32) (x7 : Int32) (X : bsX) (Z : pY) (θ : xA2) (cl sl : Nat), cl + NC16 ≤ 104 → sl + NS16 ≤ 624 → k16 x2 x3 x4 x5 x6 x7 X Z = some z → xV p l e rmL_finds s m args below meth c cl sl (MQ below (xQi ρ cA dC dI A (fun r X' R' => r = z.1 ∧ X' = z.2.1 ∧ ∃ θ' : xA2, R' = lwWs σ θ' cA z.2.2 ++ F)) args s rmL_finds.cells rmL_finds.slots A) ρ cA dC dI A (lwWs σ θ cA Z ++ (F ++ [])) 13 16 [(0, .ref (ρ 13 0 0)), (1, .ref (σ 0 0)), (2, .int x2), (3, .int x3), (4, .int x4), (5, .int x5), (6, .int x6), (7, .int x7)] [] X) (hn16 : 8 ≤ NC16 ∧ 48 ≤ NS16)  : ∀ (x2 : Int32) (x3 : Int32) (x4 : Int32) (x5 : Int32) (x6 : Int32) (x7 : Int32) (q8 : Nat) (x9 : Int32) (x10 : Int32) (x11 : Int32) (X : bsX) (Z : pY) (θ : xA2) (cl sl : Nat), q8 < ln Z → cl + ((12 + NC16)) ≤ 104 → sl + ((72 + NS16)) ≤ 624 → hL_finds_258 k16 x2 x3 x4 x5 x6 x7 q8 x9 x10 x11 X Z = some z → xV p l e rmL_finds s m args below meth c cl sl (MQ below (xQi ρ cA dC dI A (fun r X' R' => r = z.1 ∧ X' = z.2.1 ∧ ∃ θ' : xA2, R' = lwWs σ θ' cA z.2.2 ++ F)) args s rmL_finds.cells rmL_finds.slots A) ρ cA dC dI A (lwWs σ θ cA Z ++ (F ++ [])) 13 258 [(0, .ref (ρ 13 0 0)), (1, .ref (σ 0 0)), (2, .int x2), (3, .int x3), (4, .int x4), (5, .int x5), (6, .int x6), (7, .int x7), (8, .ref (σ 5 q8)), (9, .int x9), (10, .int x10), (11, .int x11)] [] X := by
  intro x2 x3 x4 x5 x6 x7 q8 x9 x10 x11 X Z θ cl sl hq8 hcl hsl hf
  rw [hL_finds_258] at hf
  refine x_iconst (v := 1) C dL_finds_258 (by decide) ?_
  refine x_goto (tgt := 263) C dL_finds_259 (by decide) ?_
  refine x_sub [0, 1, 2, 3, 4, 5, 6, 7, 8, 9, 10, 11] rfl ?_
  exact qL_finds_263 k16 C hst hk16 hn16 _ _ _ _ _ _ _ _ _ _ _ _ _ _  _ _ hq8 (by omega) (by omega) hf
set_option maxHeartbeats 4000000 in
set_option maxRecDepth 100000 in
theorem qL_finds_262 {p : Program} {l : Launch} {e : Env} {s : State} {m : MethodId} {args : Array Value} {below : List Frame} {meth : Method} {c : Code} {ρ : bsR} {sc L : Nat} {xs : Nat → Int32} {cA : Nat → ClassId} {dC : Nat → ClassId} {dI : Nat → Nat → Nat} {A : Nat → Prop} {Ts : List Cond} {σ : xA2} {F : va_W} (k16 : Int32 → Int32 → Int32 → Int32 → Int32 → Int32 → bsX → pY → Option (Int32 × bsX × pY)) {z : (Int32 × bsX × pY)} (C : xCx p m c cL_finds 13 s args Ts RL ρ sc L xs cA dC dI A meth (some .boolean)) (hst : l.stackTraces = false) {NC16 NS16 : Nat} (hk16 : ∀ (x2 : Int32) (x3 : Int32) (x4 : Int32) (x5 : Int32) (x6 : Int32) (x7 : Int32) (X : bsX) (Z : pY) (θ : xA2) (cl sl : Nat), cl + NC16 ≤ 104 → sl + NS16 ≤ 624 → k16 x2 x3 x4 x5 x6 x7 X Z = some z → xV p l e rmL_finds s m args below meth c cl sl (MQ below (xQi ρ cA dC dI A (fun r X' R' => r = z.1 ∧ X' = z.2.1 ∧ ∃ θ' : xA2, R' = lwWs σ θ' cA z.2.2 ++ F)) args s rmL_finds.cells rmL_finds.slots A) ρ cA dC dI A (lwWs σ θ cA Z ++ (F ++ [])) 13 16 [(0, .ref (ρ 13 0 0)), (1, .ref (σ 0 0)), (2, .int x2), (3, .int x3), (4, .int x4), (5, .int x5), (6, .int x6), (7, .int x7)] [] X) (hn16 : 8 ≤ NC16 ∧ 48 ≤ NS16)  : ∀ (x2 : Int32) (x3 : Int32) (x4 : Int32) (x5 : Int32) (x6 : Int32) (x7 : Int32) (q8 : Nat) (x9 : Int32) (x10 : Int32) (x11 : Int32) (X : bsX) (Z : pY) (θ : xA2) (cl sl : Nat), q8 < ln Z → cl + ((12 + NC16)) ≤ 104 → sl + ((72 + NS16)) ≤ 624 → hL_finds_262 k16 x2 x3 x4 x5 x6 x7 q8 x9 x10 x11 X Z = some z → xV p l e rmL_finds s m args below meth c cl sl (MQ below (xQi ρ cA dC dI A (fun r X' R' => r = z.1 ∧ X' = z.2.1 ∧ ∃ θ' : xA2, R' = lwWs σ θ' cA z.2.2 ++ F)) args s rmL_finds.cells rmL_finds.slots A) ρ cA dC dI A (lwWs σ θ cA Z ++ (F ++ [])) 13 262 [(0, .ref (ρ 13 0 0)), (1, .ref (σ 0 0)), (2, .int x2), (3, .int x3), (4, .int x4), (5, .int x5), (6, .int x6), (7, .int x7), (8, .ref (σ 5 q8)), (9, .int x9), (10, .int x10), (11, .int x11)] [] X := by
  intro x2 x3 x4 x5 x6 x7 q8 x9 x10 x11 X Z θ cl sl hq8 hcl hsl hf
  rw [hL_finds_262] at hf
  refine x_iconst (v := 0) C dL_finds_262 (by decide) ?_
  refine x_sub [0, 1, 2, 3, 4, 5, 6, 7, 8, 9, 10, 11] rfl ?_
  exact qL_finds_263 k16 C hst hk16 hn16 _ _ _ _ _ _ _ _ _ _ _ _ _ _  _ _ hq8 (by omega) (by omega) hf
set_option maxHeartbeats 4000000 in
set_option maxRecDepth 100000 in
theorem qL_finds_236 {p : Program} {l : Launch} {e : Env} {s : State} {m : MethodId} {args : Array Value} {below : List Frame} {meth : Method} {c : Code} {ρ : bsR} {sc L : Nat} {xs : Nat → Int32} {cA : Nat → ClassId} {dC : Nat → ClassId} {dI : Nat → Nat → Nat} {A : Nat → Prop} {Ts : List Cond} {σ : xA2} {F : va_W} (k16 : Int32 → Int32 → Int32 → Int32 → Int32 → Int32 → bsX → pY → Option (Int32 × bsX × pY)) {z : (Int32 × bsX × pY)} (C : xCx p m c cL_finds 13 s args Ts RL ρ sc L xs cA dC dI A meth (some .boolean)) (hst : l.stackTraces = false) {NC16 NS16 : Nat} (hk16 : ∀ (x2 : Int32) (x3 : Int32) (x4 : Int32) (x5 : Int32) (x6 : Int32) (x7 : Int32) (X : bsX) (Z : pY) (θ : xA2) (cl sl : Nat), cl + NC16 ≤ 104 → sl + NS16 ≤ 624 → k16 x2 x3 x4 x5 x6 x7 X Z = some z → xV p l e rmL_finds s m args below meth c cl sl (MQ below (xQi ρ cA dC dI A (fun r X' R' => r = z.1 ∧ X' = z.2.1 ∧ ∃ θ' : xA2, R' = lwWs σ θ' cA z.2.2 ++ F)) args s rmL_finds.cells rmL_finds.slots A) ρ cA dC dI A (lwWs σ θ cA Z ++ (F ++ [])) 13 16 [(0, .ref (ρ 13 0 0)), (1, .ref (σ 0 0)), (2, .int x2), (3, .int x3), (4, .int x4), (5, .int x5), (6, .int x6), (7, .int x7)] [] X) (hn16 : 8 ≤ NC16 ∧ 48 ≤ NS16)  : ∀ (x2 : Int32) (x3 : Int32) (x4 : Int32) (x5 : Int32) (x6 : Int32) (x7 : Int32) (q8 : Nat) (x9 : Int32) (x10 : Int32) (x11 : Int32) (X : bsX) (Z : pY) (θ : xA2) (cl sl : Nat), q8 < ln Z → cl + ((12 + NC16)) ≤ 104 → sl + ((72 + NS16)) ≤ 624 → hL_finds_236 k16 x2 x3 x4 x5 x6 x7 q8 x9 x10 x11 X Z = some z → xV p l e rmL_finds s m args below meth c cl sl (MQ below (xQi ρ cA dC dI A (fun r X' R' => r = z.1 ∧ X' = z.2.1 ∧ ∃ θ' : xA2, R' = lwWs σ θ' cA z.2.2 ++ F)) args s rmL_finds.cells rmL_finds.slots A) ρ cA dC dI A (lwWs σ θ cA Z ++ (F ++ [])) 13 236 [(0, .ref (ρ 13 0 0)), (1, .ref (σ 0 0)), (2, .int x2), (3, .int x3), (4, .int x4), (5, .int x5), (6, .int x6), (7, .int x7), (8, .ref (σ 5 q8)), (9, .int x9), (10, .int x10), (11, .int x11)] [] X := by
  intro x2 x3 x4 x5 x6 x7 q8 x9 x10 x11 X Z θ cl sl hq8 hcl hsl hf
  rw [hL_finds_236] at hf
  refine x_aload C dL_finds_236 rfl ?_
  refine xg_L_123 C hq8 dL_finds_238 ?_
  refine x_if_ne (tgt := 258) C dL_finds_241 (by decide) (fun h152 => ?_) (fun h152 => ?_)
  · replace hf := bs_neg h152 hf
    refine x_sub [0, 1, 2, 3, 4, 5, 6, 7, 8, 9, 10, 11] rfl ?_
    exact qL_finds_258 k16 C hst hk16 hn16 _ _ _ _ _ _ _ _ _ _ _ _ _  _ _ hq8 (by omega) (by omega) hf
  · replace hf := bs_pos h152 hf
    refine x_aload C dL_finds_244 rfl ?_
    refine xg_L_183 C hq8 dL_finds_246 ?_
    refine x_iconst (v := 1) C dL_finds_249 (by decide) ?_
    refine xl_img C hq8 (by decide) dL_finds_250 ?_
    refine x_aload_n C dL_finds_251 rfl rfl ?_
    refine xg_L_136 C dL_finds_252 ?_
    refine x_icmp_gt (tgt := 262) C dL_finds_255 (by decide) (fun h151 => ?_) (fun h151 => ?_)
    · replace hf := bs_pos h151 hf
      refine x_sub [0, 1, 2, 3, 4, 5, 6, 7, 8, 9, 10, 11] rfl ?_
      exact qL_finds_262 k16 C hst hk16 hn16 _ _ _ _ _ _ _ _ _ _ _ _ _  _ _ hq8 (by omega) (by omega) hf
    · replace hf := bs_neg h151 hf
      refine x_sub [0, 1, 2, 3, 4, 5, 6, 7, 8, 9, 10, 11] rfl ?_
      exact qL_finds_258 k16 C hst hk16 hn16 _ _ _ _ _ _ _ _ _ _ _ _ _  _ _ hq8 (by omega) (by omega) hf
set_option maxHeartbeats 4000000 in
set_option maxRecDepth 100000 in
theorem qL_finds_161 {p : Program} {l : Launch} {e : Env} {s : State} {m : MethodId} {args : Array Value} {below : List Frame} {meth : Method} {c : Code} {ρ : bsR} {sc L : Nat} {xs : Nat → Int32} {cA : Nat → ClassId} {dC : Nat → ClassId} {dI : Nat → Nat → Nat} {A : Nat → Prop} {Ts : List Cond} {σ : xA2} {F : va_W} (k16 : Int32 → Int32 → Int32 → Int32 → Int32 → Int32 → bsX → pY → Option (Int32 × bsX × pY)) {z : (Int32 × bsX × pY)} (C : xCx p m c cL_finds 13 s args Ts RL ρ sc L xs cA dC dI A meth (some .boolean)) (hst : l.stackTraces = false) {NC16 NS16 : Nat} (hk16 : ∀ (x2 : Int32) (x3 : Int32) (x4 : Int32) (x5 : Int32) (x6 : Int32) (x7 : Int32) (X : bsX) (Z : pY) (θ : xA2) (cl sl : Nat), cl + NC16 ≤ 104 → sl + NS16 ≤ 624 → k16 x2 x3 x4 x5 x6 x7 X Z = some z → xV p l e rmL_finds s m args below meth c cl sl (MQ below (xQi ρ cA dC dI A (fun r X' R' => r = z.1 ∧ X' = z.2.1 ∧ ∃ θ' : xA2, R' = lwWs σ θ' cA z.2.2 ++ F)) args s rmL_finds.cells rmL_finds.slots A) ρ cA dC dI A (lwWs σ θ cA Z ++ (F ++ [])) 13 16 [(0, .ref (ρ 13 0 0)), (1, .ref (σ 0 0)), (2, .int x2), (3, .int x3), (4, .int x4), (5, .int x5), (6, .int x6), (7, .int x7)] [] X) (hn16 : 8 ≤ NC16 ∧ 48 ≤ NS16)  : ∀ (n : Nat), ∀ (x2 : Int32) (x3 : Int32) (x4 : Int32) (x5 : Int32) (x6 : Int32) (x7 : Int32) (q8 : Nat) (x9 : Int32) (x10 : Int32) (x11 : Int32) (x12 : Int32) (X : bsX) (Z : pY) (θ : xA2) (cl sl : Nat), q8 < ln Z → cl + (n * 0 + (12 + NC16)) ≤ 104 → sl + (n * 0 + (72 + NS16)) ≤ 624 → hL_finds_161 k16 n x2 x3 x4 x5 x6 x7 q8 x9 x10 x11 x12 X Z = some z → xV p l e rmL_finds s m args below meth c cl sl (MQ below (xQi ρ cA dC dI A (fun r X' R' => r = z.1 ∧ X' = z.2.1 ∧ ∃ θ' : xA2, R' = lwWs σ θ' cA z.2.2 ++ F)) args s rmL_finds.cells rmL_finds.slots A) ρ cA dC dI A (lwWs σ θ cA Z ++ (F ++ [])) 13 161 [(0, .ref (ρ 13 0 0)), (1, .ref (σ 0 0)), (2, .int x2), (3, .int x3), (4, .int x4), (5, .int x5), (6, .int x6), (7, .int x7), (8, .ref (σ 5 q8)), (9, .int x9), (10, .int x10), (11, .int x11), (12, .int x12)] [] X := by
  intro n
  induction n with
  | zero => intro x2 x3 x4 x5 x6 x7 q8 x9 x10 x11 x12 X Z θ cl sl hq8 hcl hsl hf; exact (nomatch hf)
  | succ n ih =>
    intro x2 x3 x4 x5 x6 x7 q8 x9 x10 x11 x12 X Z θ cl sl hq8 hcl hsl hf
    rw [hL_finds_161] at hf
    refine x_iload C dL_finds_161 rfl ?_
    refine x_aload_n C dL_finds_163 rfl rfl ?_
    refine xg_L_194 C dL_finds_164 ?_
    refine xn_bts C dL_finds_167 ?_
    refine x_icmp_ge (tgt := 201) C dL_finds_168 (by decide) (fun h70 => ?_) (fun h70 => ?_)
    · replace hf := bs_pos h70 hf
      refine x_aload C dL_finds_201 rfl ?_
      obtain ⟨r60, hc61, hf⟩ := bs_bind hf
      obtain ⟨q0, he⟩ := xr_plc (Z := Z) σ θ cA (F ++ []) hq8
      refine x_callVi (y := yX10_isEmpty) (As := []) (rest := []) C (cX10_isEmpty_ok (F := F ++ []) hq8 hc61) ml_L_164 wyX10_isEmpty he rfl dpX10_isEmpty ⟨Nat.le_of_ble_eq_true rfl, Nat.le_of_ble_eq_true rfl⟩ ⟨by show (cl) + 0 ≤ 104; omega, by show (sl) + (0) ≤ 624; omega⟩ rfl (Nat.le_of_ble_eq_true rfl) dL_finds_203 (fun r' X' R' hp => ?_)
      obtain ⟨rfl, rfl, θ, rfl⟩ := hp
      refine x_widen (k := (cl)) (n := (sl)) (by show (cl) + 0 ≤ _; omega) (by show (sl) + (0) ≤ _; omega) ?_
      refine x_if_ne (tgt := 262) C dL_finds_206 (by decide) (fun h67 => ?_) (fun h67 => ?_)
      · replace hf := bs_neg h67 hf
        obtain ⟨hg63, hf⟩ := bs_if hf
        refine x_sub [0, 1, 2, 3, 4, 5, 6, 7, 8, 9, 10, 11] rfl ?_
        exact qL_finds_262 k16 C hst hk16 hn16 _ _ _ _ _ _ _ _ _ _ _ _ _  _ _ hg63 (by omega) (by omega) hf
      · replace hf := bs_pos h67 hf
        refine x_aload C dL_finds_209 rfl ?_
        obtain ⟨hg64, hf⟩ := bs_if hf
        refine xg_L_183 C hg64 dL_finds_211 ?_
        refine x_iconst (v := 2) C dL_finds_214 (by decide) ?_
        refine xl_img C hg64 (by decide) dL_finds_215 ?_
        refine x_if_eq (tgt := 236) C dL_finds_216 (by decide) (fun h66 => ?_) (fun h66 => ?_)
        · replace hf := bs_pos h66 hf
          refine x_sub [0, 1, 2, 3, 4, 5, 6, 7, 8, 9, 10, 11] rfl ?_
          exact qL_finds_236 k16 C hst hk16 hn16 _ _ _ _ _ _ _ _ _ _ _ _ _  _ _ hg64 (by omega) (by omega) hf
        · replace hf := bs_neg h66 hf
          refine x_aload C dL_finds_219 rfl ?_
          refine xg_L_183 C hg64 dL_finds_221 ?_
          refine x_iconst (v := 2) C dL_finds_224 (by decide) ?_
          refine xl_img C hg64 (by decide) dL_finds_225 ?_
          refine x_aload C dL_finds_226 rfl ?_
          refine xg_L_183 C hg64 dL_finds_228 ?_
          refine x_iconst (v := 1) C dL_finds_231 (by decide) ?_
          refine xl_img C hg64 (by decide) dL_finds_232 ?_
          refine x_icmp_le (tgt := 262) C dL_finds_233 (by decide) (fun h65 => ?_) (fun h65 => ?_)
          · replace hf := bs_pos h65 hf
            refine x_sub [0, 1, 2, 3, 4, 5, 6, 7, 8, 9, 10, 11] rfl ?_
            exact qL_finds_262 k16 C hst hk16 hn16 _ _ _ _ _ _ _ _ _ _ _ _ _  _ _ hg64 (by omega) (by omega) hf
          · replace hf := bs_neg h65 hf
            refine x_sub [0, 1, 2, 3, 4, 5, 6, 7, 8, 9, 10, 11] rfl ?_
            exact qL_finds_236 k16 C hst hk16 hn16 _ _ _ _ _ _ _ _ _ _ _ _ _  _ _ hg64 (by omega) (by omega) hf
    · replace hf := bs_neg h70 hf
      refine x_iload C dL_finds_171 rfl ?_
      refine x_aload_n C dL_finds_173 rfl rfl ?_
      refine xg_L_194 C dL_finds_174 ?_
      refine x_iload C dL_finds_177 rfl ?_
      obtain ⟨hg68, hf⟩ := bs_if hf
      refine xa_bts C hg68 dL_finds_179 ?_
      refine x_iconst (v := 3) C dL_finds_180 (by decide) ?_
      refine xl_row C (bsIx_lt hg68) (by decide) dL_finds_181 ?_
      refine x_iload C dL_finds_182 rfl ?_
      refine x_icmp_ne (tgt := 191) C dL_finds_184 (by decide) (fun h69 => ?_) (fun h69 => ?_)
      · replace hf := bs_neg h69 hf
        refine x_iconst (v := 0) C dL_finds_191 (by decide) ?_
        refine x_sub [0, 1, 2, 3, 4, 5, 6, 7, 8, 9, 10, 12] rfl ?_
        exact qL_finds_192 k16 (hL_finds_161  k16 n) C hst hk16 hn16 ih ⟨by omega, by omega⟩ _ _ _ _ _ _ _ _ _ _ _ _ _ _ _  _ _ hq8 (by omega) (by omega) hf
      · replace hf := bs_pos h69 hf
        refine x_iconst (v := 1) C dL_finds_187 (by decide) ?_
        refine x_goto (tgt := 192) C dL_finds_188 (by decide) ?_
        refine x_sub [0, 1, 2, 3, 4, 5, 6, 7, 8, 9, 10, 12] rfl ?_
        exact qL_finds_192 k16 (hL_finds_161  k16 n) C hst hk16 hn16 ih ⟨by omega, by omega⟩ _ _ _ _ _ _ _ _ _ _ _ _ _ _ _  _ _ hq8 (by omega) (by omega) hf
set_option maxHeartbeats 4000000 in
set_option maxRecDepth 100000 in
theorem qL_finds_47 {p : Program} {l : Launch} {e : Env} {s : State} {m : MethodId} {args : Array Value} {below : List Frame} {meth : Method} {c : Code} {ρ : bsR} {sc L : Nat} {xs : Nat → Int32} {cA : Nat → ClassId} {dC : Nat → ClassId} {dI : Nat → Nat → Nat} {A : Nat → Prop} {Ts : List Cond} {σ : xA2} {F : va_W} (k16 : Int32 → Int32 → Int32 → Int32 → Int32 → Int32 → bsX → pY → Option (Int32 × bsX × pY)) {z : (Int32 × bsX × pY)} (C : xCx p m c cL_finds 13 s args Ts RL ρ sc L xs cA dC dI A meth (some .boolean)) (hst : l.stackTraces = false) {NC16 NS16 : Nat} (hk16 : ∀ (x2 : Int32) (x3 : Int32) (x4 : Int32) (x5 : Int32) (x6 : Int32) (x7 : Int32) (X : bsX) (Z : pY) (θ : xA2) (cl sl : Nat), cl + NC16 ≤ 104 → sl + NS16 ≤ 624 → k16 x2 x3 x4 x5 x6 x7 X Z = some z → xV p l e rmL_finds s m args below meth c cl sl (MQ below (xQi ρ cA dC dI A (fun r X' R' => r = z.1 ∧ X' = z.2.1 ∧ ∃ θ' : xA2, R' = lwWs σ θ' cA z.2.2 ++ F)) args s rmL_finds.cells rmL_finds.slots A) ρ cA dC dI A (lwWs σ θ cA Z ++ (F ++ [])) 13 16 [(0, .ref (ρ 13 0 0)), (1, .ref (σ 0 0)), (2, .int x2), (3, .int x3), (4, .int x4), (5, .int x5), (6, .int x6), (7, .int x7)] [] X) (hn16 : 8 ≤ NC16 ∧ 48 ≤ NS16)  : ∀ (n : Nat), ∀ (x2 : Int32) (x3 : Int32) (x4 : Int32) (x5 : Int32) (x6 : Int32) (x7 : Int32) (q8 : Nat) (x9 : Int32) (x10 : Int32) (x11 : Int32) (x12 : Int32) (X : bsX) (Z : pY) (θ : xA2) (cl sl : Nat), q8 < ln Z → cl + (n * 0 + (12 + NC16)) ≤ 104 → sl + (n * 0 + (72 + NS16)) ≤ 624 → hL_finds_47 k16 n x2 x3 x4 x5 x6 x7 q8 x9 x10 x11 x12 X Z = some z → xV p l e rmL_finds s m args below meth c cl sl (MQ below (xQi ρ cA dC dI A (fun r X' R' => r = z.1 ∧ X' = z.2.1 ∧ ∃ θ' : xA2, R' = lwWs σ θ' cA z.2.2 ++ F)) args s rmL_finds.cells rmL_finds.slots A) ρ cA dC dI A (lwWs σ θ cA Z ++ (F ++ [])) 13 47 [(0, .ref (ρ 13 0 0)), (1, .ref (σ 0 0)), (2, .int x2), (3, .int x3), (4, .int x4), (5, .int x5), (6, .int x6), (7, .int x7), (8, .ref (σ 5 q8)), (9, .int x9), (10, .int x10), (11, .int x11), (12, .int x12)] [] X := by
  intro n
  induction n with
  | zero => intro x2 x3 x4 x5 x6 x7 q8 x9 x10 x11 x12 X Z θ cl sl hq8 hcl hsl hf; exact (nomatch hf)
  | succ n ih =>
    intro x2 x3 x4 x5 x6 x7 q8 x9 x10 x11 x12 X Z θ cl sl hq8 hcl hsl hf
    rw [hL_finds_47] at hf
    refine x_iload C dL_finds_47 rfl ?_
    refine x_aload_n C dL_finds_49 rfl rfl ?_
    refine xg_L_114 C dL_finds_50 ?_
    refine xn_plc C dL_finds_53 ?_
    refine x_icmp_ge (tgt := 147) C dL_finds_54 (by decide) (fun h122 => ?_) (fun h122 => ?_)
    · replace hf := bs_pos h122 hf
      refine x_iconst (v := 0) C dL_finds_147 (by decide) ?_
      refine x_aload_n C dL_finds_148 rfl rfl ?_
      refine xg_L_194 C dL_finds_149 ?_
      refine xn_bts C dL_finds_152 ?_
      refine x_bipush (v := 12) C dL_finds_153 (by decide) ?_
      refine x_isub C dL_finds_155 ?_
      refine x_mmax C (Nat.le_of_ble_eq_true rfl) (Nat.le_of_ble_eq_true rfl) (by show _ ≤ 104; omega) (by show _ ≤ 624; omega) (mm_L_220) dL_finds_156 ?_
      refine x_istore (lv' := [(12, .int (bsMax (0 : Int32) ((nI (lm Z)) - (12 : Int32)))), (0, .ref (ρ 13 0 0)), (1, .ref (σ 0 0)), (2, .int x2), (3, .int x3), (4, .int x4), (5, .int x5), (6, .int x6), (7, .int x7), (8, .ref (σ 5 q8)), (9, .int x9), (10, .int x10), (11, .int x11)]) C dL_finds_159 (by decide) rfl ?_
      refine x_sub [1, 2, 3, 4, 5, 6, 7, 8, 9, 10, 11, 12, 0] rfl ?_
      exact qL_finds_161 k16 C hst hk16 hn16 8 _ _ _ _ _ _ _ _ _ _ _ _ _ _  _ _ hq8 (by omega) (by omega) hf
    · replace hf := bs_neg h122 hf
      refine x_iload C dL_finds_57 rfl ?_
      refine x_aload_n C dL_finds_59 rfl rfl ?_
      refine x_iload C dL_finds_60 rfl ?_
      obtain ⟨r108, hc109, hf⟩ := bs_bind hf
      obtain ⟨q0, he⟩ := xr_wor σ θ cA Z (F ++ [])
      refine x_callVi (y := yX11_why) (As := [.int x12]) (rest := [.int x9]) C (cX11_why_ok (F := F ++ [])  hc109) ml_L_120 wyX11_why he rfl dpX11_why ⟨Nat.le_of_ble_eq_true rfl, Nat.le_of_ble_eq_true rfl⟩ ⟨by show (cl) + 0 ≤ 104; omega, by show (sl) + (0) ≤ 624; omega⟩ rfl (Nat.le_of_ble_eq_true rfl) dL_finds_62 (fun r' X' R' hp => ?_)
      obtain ⟨rfl, rfl, θ, rfl⟩ := hp
      refine x_widen (k := (cl)) (n := (sl)) (by show (cl) + 0 ≤ _; omega) (by show (sl) + (0) ≤ _; omega) ?_
      refine x_if_ne (tgt := 87) C dL_finds_65 (by decide) (fun h121 => ?_) (fun h121 => ?_)
      · replace hf := bs_neg h121 hf
        obtain ⟨hg111, hf⟩ := bs_if hf
        refine x_sub [0, 1, 2, 3, 4, 5, 6, 7, 8, 10, 11, 12] rfl ?_
        exact qL_finds_87 k16 (hL_finds_47  k16 n) C hst hk16 hn16 ih ⟨by omega, by omega⟩ _ _ _ _ _ _ _ _ _ _ _ _ _ _  _ _ hg111 (by omega) (by omega) hf
      · replace hf := bs_pos h121 hf
        refine x_aload_n C dL_finds_68 rfl rfl ?_
        refine x_iload C dL_finds_69 rfl ?_
        obtain ⟨r112, hc113, hf⟩ := bs_bind hf
        obtain ⟨q0, he⟩ := xr_wor σ θ cA r108.2.2 (F ++ [])
        refine x_callVi (y := yX11_worth) (As := [.int x12]) (rest := [.int x9]) C (cX11_worth_ok (F := F ++ [])  hc113) ml_L_217 wyX11_worth he rfl dpX11_worth ⟨Nat.le_of_ble_eq_true rfl, Nat.le_of_ble_eq_true rfl⟩ ⟨by show (cl) + 0 ≤ 104; omega, by show (sl) + (0) ≤ 624; omega⟩ rfl (Nat.le_of_ble_eq_true rfl) dL_finds_71 (fun r' X' R' hp => ?_)
        obtain ⟨rfl, rfl, θ, rfl⟩ := hp
        refine x_widen (k := (cl)) (n := (sl)) (by show (cl) + 0 ≤ _; omega) (by show (sl) + (0) ≤ _; omega) ?_
        refine x_aload_n C dL_finds_74 rfl rfl ?_
        refine x_iload C dL_finds_75 rfl ?_
        obtain ⟨r115, hc116, hf⟩ := bs_bind hf
        obtain ⟨q0, he⟩ := xr_wor σ θ cA r112.2.2 (F ++ [])
        refine x_callVi (y := yX11_worth) (As := [.int x7]) (rest := [.int r112.1, .int x9]) C (cX11_worth_ok (F := F ++ [])  hc116) ml_L_217 wyX11_worth he rfl dpX11_worth ⟨Nat.le_of_ble_eq_true rfl, Nat.le_of_ble_eq_true rfl⟩ ⟨by show (cl) + 0 ≤ 104; omega, by show (sl) + (0) ≤ 624; omega⟩ rfl (Nat.le_of_ble_eq_true rfl) dL_finds_77 (fun r' X' R' hp => ?_)
        obtain ⟨rfl, rfl, θ, rfl⟩ := hp
        refine x_widen (k := (cl)) (n := (sl)) (by show (cl) + 0 ≤ _; omega) (by show (sl) + (0) ≤ _; omega) ?_
        refine x_icmp_le (tgt := 87) C dL_finds_80 (by decide) (fun h120 => ?_) (fun h120 => ?_)
        · replace hf := bs_pos h120 hf
          obtain ⟨hg118, hf⟩ := bs_if hf
          refine x_sub [0, 1, 2, 3, 4, 5, 6, 7, 8, 10, 11, 12] rfl ?_
          exact qL_finds_87 k16 (hL_finds_47  k16 n) C hst hk16 hn16 ih ⟨by omega, by omega⟩ _ _ _ _ _ _ _ _ _ _ _ _ _ _  _ _ hg118 (by omega) (by omega) hf
        · replace hf := bs_neg h120 hf
          refine x_iconst (v := 1) C dL_finds_83 (by decide) ?_
          refine x_goto (tgt := 88) C dL_finds_84 (by decide) ?_
          obtain ⟨hg119, hf⟩ := bs_if hf
          refine x_sub [0, 1, 2, 3, 4, 5, 6, 7, 8, 10, 11, 12] rfl ?_
          exact qL_finds_88 k16 (hL_finds_47  k16 n) C hst hk16 hn16 ih ⟨by omega, by omega⟩ _ _ _ _ _ _ _ _ _ _ _ _ _ _ _  _ _ hg119 (by omega) (by omega) hf
set_option maxHeartbeats 4000000 in
set_option maxRecDepth 100000 in
theorem qL_finds_631 {p : Program} {l : Launch} {e : Env} {s : State} {m : MethodId} {args : Array Value} {below : List Frame} {meth : Method} {c : Code} {ρ : bsR} {sc L : Nat} {xs : Nat → Int32} {cA : Nat → ClassId} {dC : Nat → ClassId} {dI : Nat → Nat → Nat} {A : Nat → Prop} {Ts : List Cond} {σ : xA2} {F : va_W} {z : (Int32 × bsX × pY)} (C : xCx p m c cL_finds 13 s args Ts RL ρ sc L xs cA dC dI A meth (some .boolean)) (hst : l.stackTraces = false)  : ∀ (y0 : Int32) (y1 : Int32) (X : bsX) (Z : pY) (θ : xA2) (cl sl : Nat), cl + ((1)) ≤ 104 → sl + ((6)) ≤ 624 → hL_finds_631  y0 y1 X Z = some z → xV p l e rmL_finds s m args below meth c cl sl (MQ below (xQi ρ cA dC dI A (fun r X' R' => r = z.1 ∧ X' = z.2.1 ∧ ∃ θ' : xA2, R' = lwWs σ θ' cA z.2.2 ++ F)) args s rmL_finds.cells rmL_finds.slots A) ρ cA dC dI A (lwWs σ θ cA Z ++ (F ++ [])) 13 631 [(0, .ref (ρ 13 0 0)), (1, .ref (σ 0 0))] [.int y1, .int y0] X := by
  intro y0 y1 X Z θ cl sl hcl hsl hf
  rw [hL_finds_631] at hf
  refine x_icmp_ne (tgt := 649) C dL_finds_631 (by decide) (fun h160 => ?_) (fun h160 => ?_)
  · replace hf := bs_neg h160 hf
    refine x_iconst (v := 0) C dL_finds_649 (by decide) ?_
    obtain rfl := Option.some.inj hf
    refine xu_dropall ?_
    exact x_xret C (bsZ01 (by decide)).1 ⟨rfl, rfl, _, rfl⟩ (by show _ ≤ 104; omega) (by show _ ≤ 624; omega) dL_finds_650
  · replace hf := bs_pos h160 hf
    refine x_aload_n C dL_finds_634 rfl rfl ?_
    obtain ⟨r153, hc154, hf⟩ := bs_bind hf
    obtain ⟨h0155, hf⟩ := bs_if hf
    refine x_callT (y := yX8_spare) (As := []) (rest := []) C (cX8_spare_ok hst hc154) h0155 ml_L_266 wyX8_spare bsm_X8 bsc_X8 rfl dpX8_spare ⟨Nat.le_of_ble_eq_true rfl, Nat.le_of_ble_eq_true rfl⟩ ⟨by show (cl) + 1 ≤ 104; omega, by show (sl) + 6 ≤ 624; omega⟩ rfl (Nat.le_of_ble_eq_true rfl) dL_finds_635 ?_
    refine x_widen (k := (cl + 1)) (n := (sl + 6)) (by show (cl) + 1 ≤ _; omega) (by show (sl) + 6 ≤ _; omega) ?_
    refine x_aload_n C dL_finds_638 rfl rfl ?_
    obtain ⟨r156, hc157, hf⟩ := bs_bind hf
    refine x_callSi (y := yL_spare) (As := [.ref (σ 0 0)]) (rest := [.int r153.2.1]) C (cL_spare_ok (F := F ++ [])  hc157) ml_L_269 wzL_spare dpL_spare ⟨Nat.le_of_ble_eq_true rfl, Nat.le_of_ble_eq_true rfl⟩ ⟨by show (cl + 1) + 0 ≤ 104; omega, by show (sl + 6) + (0) ≤ 624; omega⟩ rfl (Nat.le_of_ble_eq_true rfl) dL_finds_639 (fun r' X' R' hp => ?_)
    obtain ⟨rfl, rfl, θ, rfl⟩ := hp
    refine x_widen (k := (cl + 1)) (n := (sl + 6)) (by show (cl + 1) + 0 ≤ _; omega) (by show (sl + 6) + (0) ≤ _; omega) ?_
    refine x_icmp_ne (tgt := 649) C dL_finds_642 (by decide) (fun h159 => ?_) (fun h159 => ?_)
    · replace hf := bs_neg h159 hf
      refine x_iconst (v := 0) C dL_finds_649 (by decide) ?_
      obtain rfl := Option.some.inj hf
      refine xu_dropall ?_
      exact x_xret C (bsZ01 (by decide)).1 ⟨rfl, rfl, _, rfl⟩ (by show _ ≤ 104; omega) (by show _ ≤ 624; omega) dL_finds_650
    · replace hf := bs_pos h159 hf
      refine x_iconst (v := 1) C dL_finds_645 (by decide) ?_
      refine x_goto (tgt := 650) C dL_finds_646 (by decide) ?_
      obtain rfl := Option.some.inj hf
      refine xu_dropall ?_
      exact x_xret C (bsZ01 (by decide)).1 ⟨rfl, rfl, _, rfl⟩ (by show _ ≤ 104; omega) (by show _ ≤ 624; omega) dL_finds_650
set_option maxHeartbeats 4000000 in
set_option maxRecDepth 100000 in
theorem qL_finds_16 {p : Program} {l : Launch} {e : Env} {s : State} {m : MethodId} {args : Array Value} {below : List Frame} {meth : Method} {c : Code} {ρ : bsR} {sc L : Nat} {xs : Nat → Int32} {cA : Nat → ClassId} {dC : Nat → ClassId} {dI : Nat → Nat → Nat} {A : Nat → Prop} {Ts : List Cond} {σ : xA2} {F : va_W} {z : (Int32 × bsX × pY)} (C : xCx p m c cL_finds 13 s args Ts RL ρ sc L xs cA dC dI A meth (some .boolean)) (hst : l.stackTraces = false)  : ∀ (n : Nat), ∀ (x2 : Int32) (x3 : Int32) (x4 : Int32) (x5 : Int32) (x6 : Int32) (x7 : Int32) (X : bsX) (Z : pY) (θ : xA2) (cl sl : Nat), cl + (n * 12 + (8)) ≤ 104 → sl + (n * 72 + (48)) ≤ 624 → hL_finds_16  n x2 x3 x4 x5 x6 x7 X Z = some z → xV p l e rmL_finds s m args below meth c cl sl (MQ below (xQi ρ cA dC dI A (fun r X' R' => r = z.1 ∧ X' = z.2.1 ∧ ∃ θ' : xA2, R' = lwWs σ θ' cA z.2.2 ++ F)) args s rmL_finds.cells rmL_finds.slots A) ρ cA dC dI A (lwWs σ θ cA Z ++ (F ++ [])) 13 16 [(0, .ref (ρ 13 0 0)), (1, .ref (σ 0 0)), (2, .int x2), (3, .int x3), (4, .int x4), (5, .int x5), (6, .int x6), (7, .int x7)] [] X := by
  intro n
  induction n with
  | zero => intro x2 x3 x4 x5 x6 x7 X Z θ cl sl hcl hsl hf; exact (nomatch hf)
  | succ n ih =>
    intro x2 x3 x4 x5 x6 x7 X Z θ cl sl hcl hsl hf
    rw [hL_finds_16] at hf
    refine x_iload C dL_finds_16 rfl ?_
    refine x_aload_n C dL_finds_18 rfl rfl ?_
    refine xg_L_114 C dL_finds_19 ?_
    refine xn_plc C dL_finds_22 ?_
    refine x_icmp_ge (tgt := 552) C dL_finds_23 (by decide) (fun h59 => ?_) (fun h59 => ?_)
    · replace hf := bs_pos h59 hf
      refine x_aload_n C dL_finds_552 rfl rfl ?_
      obtain ⟨r24, hc25, hf⟩ := bs_bind hf
      obtain ⟨h026, hf⟩ := bs_if hf
      refine x_callT (y := yX8_newest) (As := []) (rest := []) C (cX8_newest_ok hst hc25) h026 ml_L_243 wyX8_newest bsm_X8 bsc_X8 rfl dpX8_newest ⟨Nat.le_of_ble_eq_true rfl, Nat.le_of_ble_eq_true rfl⟩ ⟨by show (cl) + 1 ≤ 104; omega, by show (sl) + 6 ≤ 624; omega⟩ rfl (Nat.le_of_ble_eq_true rfl) dL_finds_553 ?_
      refine x_widen (k := (cl + 1)) (n := (sl + 6)) (by show (cl) + 1 ≤ _; omega) (by show (sl) + 6 ≤ _; omega) ?_
      refine x_iload_n C dL_finds_556 rfl rfl ?_
      refine x_icmp_ne (tgt := 649) C dL_finds_557 (by decide) (fun h57 => ?_) (fun h57 => ?_)
      · replace hf := bs_neg h57 hf
        refine x_iconst (v := 0) C dL_finds_649 (by decide) ?_
        obtain rfl := Option.some.inj hf
        refine xu_dropall ?_
        exact x_xret C (bsZ01 (by decide)).1 ⟨rfl, rfl, _, rfl⟩ (by show _ ≤ 104; omega) (by show _ ≤ 624; omega) dL_finds_650
      · replace hf := bs_pos h57 hf
        refine x_aload_n C dL_finds_560 rfl rfl ?_
        obtain ⟨r27, hc28, hf⟩ := bs_bind hf
        obtain ⟨h029, hf⟩ := bs_if hf
        refine x_callT (y := yX8_sinking) (As := []) (rest := []) C (cX8_sinking_ok hst hc28) h029 ml_L_246 wyX8_sinking bsm_X8 bsc_X8 rfl dpX8_sinking ⟨Nat.le_of_ble_eq_true rfl, Nat.le_of_ble_eq_true rfl⟩ ⟨by show (cl + 1) + 1 ≤ 104; omega, by show (sl + 6) + 6 ≤ 624; omega⟩ rfl (Nat.le_of_ble_eq_true rfl) dL_finds_561 ?_
        refine x_widen (k := (cl + 2)) (n := (sl + 12)) (by show (cl + 1) + 1 ≤ _; omega) (by show (sl + 6) + 6 ≤ _; omega) ?_
        refine x_iload_n C dL_finds_564 rfl rfl ?_
        refine x_icmp_ne (tgt := 649) C dL_finds_565 (by decide) (fun h56 => ?_) (fun h56 => ?_)
        · replace hf := bs_neg h56 hf
          refine x_iconst (v := 0) C dL_finds_649 (by decide) ?_
          obtain rfl := Option.some.inj hf
          refine xu_dropall ?_
          exact x_xret C (bsZ01 (by decide)).1 ⟨rfl, rfl, _, rfl⟩ (by show _ ≤ 104; omega) (by show _ ≤ 624; omega) dL_finds_650
        · replace hf := bs_pos h56 hf
          refine x_aload_n C dL_finds_568 rfl rfl ?_
          obtain ⟨r30, hc31, hf⟩ := bs_bind hf
          obtain ⟨h032, hf⟩ := bs_if hf
          refine x_callT (y := yX8_mostBoots) (As := []) (rest := []) C (cX8_mostBoots_ok hst hc31) h032 ml_L_249 wyX8_mostBoots bsm_X8 bsc_X8 rfl dpX8_mostBoots ⟨Nat.le_of_ble_eq_true rfl, Nat.le_of_ble_eq_true rfl⟩ ⟨by show (cl + 2) + 1 ≤ 104; omega, by show (sl + 12) + 6 ≤ 624; omega⟩ rfl (Nat.le_of_ble_eq_true rfl) dL_finds_569 ?_
          refine x_widen (k := (cl + 3)) (n := (sl + 18)) (by show (cl + 2) + 1 ≤ _; omega) (by show (sl + 12) + 6 ≤ _; omega) ?_
          refine x_iload C dL_finds_572 rfl ?_
          refine x_icmp_ne (tgt := 649) C dL_finds_574 (by decide) (fun h55 => ?_) (fun h55 => ?_)
          · replace hf := bs_neg h55 hf
            refine x_iconst (v := 0) C dL_finds_649 (by decide) ?_
            obtain rfl := Option.some.inj hf
            refine xu_dropall ?_
            exact x_xret C (bsZ01 (by decide)).1 ⟨rfl, rfl, _, rfl⟩ (by show _ ≤ 104; omega) (by show _ ≤ 624; omega) dL_finds_650
          · replace hf := bs_pos h55 hf
            refine x_aload_n C dL_finds_577 rfl rfl ?_
            obtain ⟨r33, hc34, hf⟩ := bs_bind hf
            obtain ⟨h035, hf⟩ := bs_if hf
            refine x_callT (y := yX8_weakest) (As := []) (rest := []) C (cX8_weakest_ok hst hc34) h035 ml_L_252 wyX8_weakest bsm_X8 bsc_X8 rfl dpX8_weakest ⟨Nat.le_of_ble_eq_true rfl, Nat.le_of_ble_eq_true rfl⟩ ⟨by show (cl + 3) + 1 ≤ 104; omega, by show (sl + 18) + 6 ≤ 624; omega⟩ rfl (Nat.le_of_ble_eq_true rfl) dL_finds_578 ?_
            refine x_widen (k := (cl + 4)) (n := (sl + 24)) (by show (cl + 3) + 1 ≤ _; omega) (by show (sl + 18) + 6 ≤ _; omega) ?_
            refine x_iload C dL_finds_581 rfl ?_
            refine x_icmp_ne (tgt := 649) C dL_finds_583 (by decide) (fun h54 => ?_) (fun h54 => ?_)
            · replace hf := bs_neg h54 hf
              refine x_iconst (v := 0) C dL_finds_649 (by decide) ?_
              obtain rfl := Option.some.inj hf
              refine xu_dropall ?_
              exact x_xret C (bsZ01 (by decide)).1 ⟨rfl, rfl, _, rfl⟩ (by show _ ≤ 104; omega) (by show _ ≤ 624; omega) dL_finds_650
            · replace hf := bs_pos h54 hf
              refine x_aload_n C dL_finds_586 rfl rfl ?_
              obtain ⟨r36, hc37, hf⟩ := bs_bind hf
              obtain ⟨h038, hf⟩ := bs_if hf
              refine x_callT (y := yX8_highestFloor) (As := []) (rest := []) C (cX8_highestFloor_ok hst hc37) h038 ml_L_255 wyX8_highestFloor bsm_X8 bsc_X8 rfl dpX8_highestFloor ⟨Nat.le_of_ble_eq_true rfl, Nat.le_of_ble_eq_true rfl⟩ ⟨by show (cl + 4) + 1 ≤ 104; omega, by show (sl + 24) + 6 ≤ 624; omega⟩ rfl (Nat.le_of_ble_eq_true rfl) dL_finds_587 ?_
              refine x_widen (k := (cl + 5)) (n := (sl + 30)) (by show (cl + 4) + 1 ≤ _; omega) (by show (sl + 24) + 6 ≤ _; omega) ?_
              refine x_iload C dL_finds_590 rfl ?_
              refine x_icmp_ne (tgt := 649) C dL_finds_592 (by decide) (fun h53 => ?_) (fun h53 => ?_)
              · replace hf := bs_neg h53 hf
                refine x_iconst (v := 0) C dL_finds_649 (by decide) ?_
                obtain rfl := Option.some.inj hf
                refine xu_dropall ?_
                exact x_xret C (bsZ01 (by decide)).1 ⟨rfl, rfl, _, rfl⟩ (by show _ ≤ 104; omega) (by show _ ≤ 624; omega) dL_finds_650
              · replace hf := bs_pos h53 hf
                refine x_aload_n C dL_finds_595 rfl rfl ?_
                obtain ⟨r39, hc40, hf⟩ := bs_bind hf
                obtain ⟨h041, hf⟩ := bs_if hf
                refine x_callT (y := yX8_choice) (As := []) (rest := []) C (cX8_choice_ok hst hc40) h041 ml_L_258 wyX8_choice bsm_X8 bsc_X8 rfl dpX8_choice ⟨Nat.le_of_ble_eq_true rfl, Nat.le_of_ble_eq_true rfl⟩ ⟨by show (cl + 5) + 1 ≤ 104; omega, by show (sl + 30) + 6 ≤ 624; omega⟩ rfl (Nat.le_of_ble_eq_true rfl) dL_finds_596 ?_
                refine x_widen (k := (cl + 6)) (n := (sl + 36)) (by show (cl + 5) + 1 ≤ _; omega) (by show (sl + 30) + 6 ≤ _; omega) ?_
                refine x_aload_n C dL_finds_599 rfl rfl ?_
                refine x_iconst (v := -1) C dL_finds_600 (by decide) ?_
                obtain ⟨r42, hc43, hf⟩ := bs_bind hf
                obtain ⟨q0, he⟩ := xr_wor σ θ cA Z (F ++ [])
                refine x_callVi (y := yX11_choice) (As := [.int (-1 : Int32)]) (rest := [.int r39.2.1]) C (cX11_choice_ok (F := F ++ [])  hc43) ml_L_261 wyX11_choice he rfl dpX11_choice ⟨Nat.le_of_ble_eq_true rfl, Nat.le_of_ble_eq_true rfl⟩ ⟨by show (cl + 6) + 0 ≤ 104; omega, by show (sl + 36) + (0) ≤ 624; omega⟩ rfl (Nat.le_of_ble_eq_true rfl) dL_finds_601 (fun r' X' R' hp => ?_)
                obtain ⟨rfl, rfl, θ, rfl⟩ := hp
                refine x_widen (k := (cl + 6)) (n := (sl + 36)) (by show (cl + 6) + 0 ≤ _; omega) (by show (sl + 36) + (0) ≤ _; omega) ?_
                refine x_icmp_ne (tgt := 649) C dL_finds_604 (by decide) (fun h52 => ?_) (fun h52 => ?_)
                · replace hf := bs_neg h52 hf
                  refine x_iconst (v := 0) C dL_finds_649 (by decide) ?_
                  obtain rfl := Option.some.inj hf
                  refine xu_dropall ?_
                  exact x_xret C (bsZ01 (by decide)).1 ⟨rfl, rfl, _, rfl⟩ (by show _ ≤ 104; omega) (by show _ ≤ 624; omega) dL_finds_650
                · replace hf := bs_pos h52 hf
                  refine x_aload_n C dL_finds_607 rfl rfl ?_
                  obtain ⟨r45, hc46, hf⟩ := bs_bind hf
                  obtain ⟨h047, hf⟩ := bs_if hf
                  refine x_callT (y := yX8_fallback) (As := []) (rest := []) C (cX8_fallback_ok hst hc46) h047 ml_L_263 wyX8_fallback bsm_X8 bsc_X8 rfl dpX8_fallback ⟨Nat.le_of_ble_eq_true rfl, Nat.le_of_ble_eq_true rfl⟩ ⟨by show (cl + 6) + 1 ≤ 104; omega, by show (sl + 36) + 6 ≤ 624; omega⟩ rfl (Nat.le_of_ble_eq_true rfl) dL_finds_608 ?_
                  refine x_widen (k := (cl + 7)) (n := (sl + 42)) (by show (cl + 6) + 1 ≤ _; omega) (by show (sl + 36) + 6 ≤ _; omega) ?_
                  refine x_aload_n C dL_finds_611 rfl rfl ?_
                  refine xg_L_148 C dL_finds_612 ?_
                  refine x_iconst (v := 1) C dL_finds_615 (by decide) ?_
                  refine x_icmp_ne (tgt := 630) C dL_finds_616 (by decide) (fun h51 => ?_) (fun h51 => ?_)
                  · replace hf := bs_neg h51 hf
                    refine x_iconst (v := -1) C dL_finds_630 (by decide) ?_
                    refine x_sub [0, 1] rfl ?_
                    exact qL_finds_631  C hst  _ _ _ _ _  _ _  (by omega) (by omega) hf
                  · replace hf := bs_pos h51 hf
                    refine x_aload_n C dL_finds_619 rfl rfl ?_
                    refine x_aload_n C dL_finds_620 rfl rfl ?_
                    refine xg_L_151 C dL_finds_621 ?_
                    obtain ⟨r48, hc49, hf⟩ := bs_bind hf
                    obtain ⟨q0, he⟩ := xr_wor σ θ cA r42.2.2 (F ++ [])
                    refine x_callVi (y := yX11_choice) (As := [.int (r42.2.2 0 0 11)]) (rest := [.int r45.2.1]) C (cX11_choice_ok (F := F ++ [])  hc49) ml_L_261 wyX11_choice he rfl dpX11_choice ⟨Nat.le_of_ble_eq_true rfl, Nat.le_of_ble_eq_true rfl⟩ ⟨by show (cl + 7) + 0 ≤ 104; omega, by show (sl + 42) + (0) ≤ 624; omega⟩ rfl (Nat.le_of_ble_eq_true rfl) dL_finds_624 (fun r' X' R' hp => ?_)
                    obtain ⟨rfl, rfl, θ, rfl⟩ := hp
                    refine x_widen (k := (cl + 7)) (n := (sl + 42)) (by show (cl + 7) + 0 ≤ _; omega) (by show (sl + 42) + (0) ≤ _; omega) ?_
                    refine x_goto (tgt := 631) C dL_finds_627 (by decide) ?_
                    refine x_sub [0, 1] rfl ?_
                    exact qL_finds_631  C hst  _ _ _ _ _  _ _  (by omega) (by omega) hf
    · replace hf := bs_neg h59 hf
      refine x_aload_n C dL_finds_26 rfl rfl ?_
      refine xg_L_114 C dL_finds_27 ?_
      refine x_iload C dL_finds_30 rfl ?_
      obtain ⟨hg58, hf⟩ := bs_if hf
      refine xa_plc C hg58 dL_finds_32 ?_
      refine x_astore (lv' := [(8, .ref (σ 5 (bsIx x7))), (0, .ref (ρ 13 0 0)), (1, .ref (σ 0 0)), (2, .int x2), (3, .int x3), (4, .int x4), (5, .int x5), (6, .int x6), (7, .int x7)]) C dL_finds_33 (by decide) rfl ?_
      refine x_iconst (v := 0) C dL_finds_35 (by decide) ?_
      refine x_istore (lv' := [(9, .int (0 : Int32)), (8, .ref (σ 5 (bsIx x7))), (0, .ref (ρ 13 0 0)), (1, .ref (σ 0 0)), (2, .int x2), (3, .int x3), (4, .int x4), (5, .int x5), (6, .int x6), (7, .int x7)]) C dL_finds_36 (by decide) rfl ?_
      refine x_iconst (v := 0) C dL_finds_38 (by decide) ?_
      refine x_istore (lv' := [(10, .int (0 : Int32)), (9, .int (0 : Int32)), (8, .ref (σ 5 (bsIx x7))), (0, .ref (ρ 13 0 0)), (1, .ref (σ 0 0)), (2, .int x2), (3, .int x3), (4, .int x4), (5, .int x5), (6, .int x6), (7, .int x7)]) C dL_finds_39 (by decide) rfl ?_
      refine x_iconst (v := 0) C dL_finds_41 (by decide) ?_
      refine x_istore (lv' := [(11, .int (0 : Int32)), (10, .int (0 : Int32)), (9, .int (0 : Int32)), (8, .ref (σ 5 (bsIx x7))), (0, .ref (ρ 13 0 0)), (1, .ref (σ 0 0)), (2, .int x2), (3, .int x3), (4, .int x4), (5, .int x5), (6, .int x6), (7, .int x7)]) C dL_finds_42 (by decide) rfl ?_
      refine x_iconst (v := 0) C dL_finds_44 (by decide) ?_
      refine x_istore (lv' := [(12, .int (0 : Int32)), (11, .int (0 : Int32)), (10, .int (0 : Int32)), (9, .int (0 : Int32)), (8, .ref (σ 5 (bsIx x7))), (0, .ref (ρ 13 0 0)), (1, .ref (σ 0 0)), (2, .int x2), (3, .int x3), (4, .int x4), (5, .int x5), (6, .int x6), (7, .int x7)]) C dL_finds_45 (by decide) rfl ?_
      refine x_sub [5, 6, 7, 8, 9, 10, 11, 12, 4, 3, 2, 1, 0] rfl ?_
      exact qL_finds_47 (hL_finds_16   n) C hst ih ⟨by omega, by omega⟩ 8 _ _ _ _ _ _ _ _ _ _ _ _ _ _  _ _ (bsIx_lt hg58) (by omega) (by omega) hf
set_option maxHeartbeats 4000000 in
set_option maxRecDepth 100000 in
theorem cL_finds_ok {l : Launch} {ρ : bsR} {sc L : Nat} {xs : Nat → Int32} {cA : Nat → ClassId} {dC : Nat → ClassId} {dI : Nat → Nat → Nat} {σ θ : xA2} {F : va_W} (hst : l.stackTraces = false) {X : bsX} {Z : pY} {z : (Int32 × bsX × pY)} (hf : hL_finds  X Z = some z) : xMi l yL_finds cL_finds 13 (some .boolean) rmL_finds ρ sc L xs cA dC dI [.ref (ρ 13 0 0), .ref (σ 0 0)] X (lwWs σ θ cA Z ++ F) (fun r X' R' => r = z.1 ∧ X' = z.2.1 ∧ ∃ θ' : xA2, R' = lwWs σ θ' cA z.2.2 ++ F) := by
  refine xMi_of (by decide) (Nat.le_of_ble_eq_true rfl) (fun p e s m args below meth c C => ?_)
  have C : xCx p m c cL_finds 13 s args (Cond.code yL_finds cL_finds 13 (some .boolean) :: bsG) RL ρ sc L xs cA dC dI (bsA ρ cA (lwWs σ θ cA Z ++ F) s.heap.size) meth (some .boolean) := C
  rw [hL_finds] at hf
  generalize (bsA ρ cA (lwWs σ θ cA Z ++ F) s.heap.size) = A at C ⊢
  refine x_sub [0, 1] rfl ?_
  refine xu_none ?_
  refine x_iconst (v := -1) C dL_finds_0 (by decide) ?_
  refine x_istore_n (lv' := [(2, .int (-1 : Int32)), (0, .ref (ρ 13 0 0)), (1, .ref (σ 0 0))]) C dL_finds_1 rfl (by decide) rfl ?_
  refine x_iconst (v := 0) C dL_finds_2 (by decide) ?_
  refine x_istore_n (lv' := [(3, .int (0 : Int32)), (2, .int (-1 : Int32)), (0, .ref (ρ 13 0 0)), (1, .ref (σ 0 0))]) C dL_finds_3 rfl (by decide) rfl ?_
  refine x_iconst (v := 0) C dL_finds_4 (by decide) ?_
  refine x_istore (lv' := [(4, .int (0 : Int32)), (3, .int (0 : Int32)), (2, .int (-1 : Int32)), (0, .ref (ρ 13 0 0)), (1, .ref (σ 0 0))]) C dL_finds_5 (by decide) rfl ?_
  refine x_iconst (v := -1) C dL_finds_7 (by decide) ?_
  refine x_istore (lv' := [(5, .int (-1 : Int32)), (4, .int (0 : Int32)), (3, .int (0 : Int32)), (2, .int (-1 : Int32)), (0, .ref (ρ 13 0 0)), (1, .ref (σ 0 0))]) C dL_finds_8 (by decide) rfl ?_
  refine x_iconst (v := -1) C dL_finds_10 (by decide) ?_
  refine x_istore (lv' := [(6, .int (-1 : Int32)), (5, .int (-1 : Int32)), (4, .int (0 : Int32)), (3, .int (0 : Int32)), (2, .int (-1 : Int32)), (0, .ref (ρ 13 0 0)), (1, .ref (σ 0 0))]) C dL_finds_11 (by decide) rfl ?_
  refine x_iconst (v := 0) C dL_finds_13 (by decide) ?_
  refine x_istore (lv' := [(7, .int (0 : Int32)), (6, .int (-1 : Int32)), (5, .int (-1 : Int32)), (4, .int (0 : Int32)), (3, .int (0 : Int32)), (2, .int (-1 : Int32)), (0, .ref (ρ 13 0 0)), (1, .ref (σ 0 0))]) C dL_finds_14 (by decide) rfl ?_
  refine x_sub [6, 7, 5, 4, 3, 2, 1, 0] rfl ?_
  exact qL_finds_16  C hst  8 _ _ _ _ _ _ _ _ _  _ _  (by omega) (by omega) hf
