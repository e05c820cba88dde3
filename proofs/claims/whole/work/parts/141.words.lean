theorem mlw_195 : Cond.methodLink RL 195 yX8_append ∈ bsG := bsG_in 481 (by decide +kernel) rfl
theorem mlw_198 : Cond.methodLink RL 198 yX9_append ∈ bsG := bsG_in 1499 (by decide +kernel) rfl
theorem mlw_199 : Cond.methodLink RL 199 yL_load ∈ bsG := bsG_in 505 (by decide +kernel) rfl
theorem mlw_204 : Cond.methodLink RL 204 yX9_load ∈ bsG := bsG_in 1515 (by decide +kernel) rfl
theorem mlw_205 : Cond.methodLink RL 205 yX9_thrown ∈ bsG := bsG_in 1495 (by decide +kernel) rfl
theorem mlw_208 : Cond.methodLink RL 208 yX8_parseError ∈ bsG := bsG_in 489 (by decide +kernel) rfl
theorem mlw_211 : Cond.methodLink RL 211 yX9_parseError ∈ bsG := bsG_in 1507 (by decide +kernel) rfl
theorem mlw_212 : Cond.methodLink RL 212 yX8_errorPosition ∈ bsG := bsG_in 493 (by decide +kernel) rfl
theorem mlw_215 : Cond.methodLink RL 215 yX9_errorPosition ∈ bsG := bsG_in 1511 (by decide +kernel) rfl
theorem mlw_216 : Cond.methodLink RL 216 yX8_buffered ∈ bsG := bsG_in 497 (by decide +kernel) rfl
theorem mlw_219 : Cond.methodLink RL 219 yX9_buffered ∈ bsG := bsG_in 1503 (by decide +kernel) rfl
theorem mlw_220 : Cond.methodLink RL 220 yL_count ∈ bsG := bsG_in 741 (by decide +kernel) rfl
theorem mlw_222 : Cond.methodLink RL 222 yX9_count ∈ bsG := bsG_in 1625 (by decide +kernel) rfl
theorem mlw_223 : Cond.methodLink RL 223 yL_slot ∈ bsG := bsG_in 796 (by decide +kernel) rfl
theorem mlw_226 : Cond.methodLink RL 226 yX9_slot ∈ bsG := bsG_in 1654 (by decide +kernel) rfl
theorem mlw_227 : Cond.methodLink RL 227 yL_image ∈ bsG := bsG_in 811 (by decide +kernel) rfl
theorem mlw_229 : Cond.methodLink RL 229 yX9_image ∈ bsG := bsG_in 1667 (by decide +kernel) rfl
theorem mlw_230 : Cond.methodLink RL 230 yL_install ∈ bsG := bsG_in 821 (by decide +kernel) rfl
theorem mlw_232 : Cond.methodLink RL 232 yX9_install ∈ bsG := bsG_in 1672 (by decide +kernel) rfl
theorem mlw_233 : Cond.methodLink RL 233 yL_boot ∈ bsG := bsG_in 832 (by decide +kernel) rfl
theorem mlw_235 : Cond.methodLink RL 235 yX9_boot ∈ bsG := bsG_in 1677 (by decide +kernel) rfl
theorem mlw_236 : Cond.methodLink RL 236 yL_whyNot ∈ bsG := bsG_in 850 (by decide +kernel) rfl
theorem mlw_238 : Cond.methodLink RL 238 yX9_whyNot ∈ bsG := bsG_in 1681 (by decide +kernel) rfl
theorem mlw_239 : Cond.methodLink RL 239 yL_choice ∈ bsG := bsG_in 861 (by decide +kernel) rfl
theorem mlw_242 : Cond.methodLink RL 242 yX9_choice ∈ bsG := bsG_in 1685 (by decide +kernel) rfl
theorem mlw_243 : Cond.methodLink RL 243 yL_place ∈ bsG := bsG_in 876 (by decide +kernel) rfl
theorem mlw_245 : Cond.methodLink RL 245 yX9_place ∈ bsG := bsG_in 1697 (by decide +kernel) rfl
theorem mlw_246 : Cond.methodLink RL 246 yL_newest ∈ bsG := bsG_in 884 (by decide +kernel) rfl
theorem mlw_248 : Cond.methodLink RL 248 yX9_newest ∈ bsG := bsG_in 1705 (by decide +kernel) rfl
theorem mlw_249 : Cond.methodLink RL 249 yL_spare ∈ bsG := bsG_in 891 (by decide +kernel) rfl
theorem mlw_251 : Cond.methodLink RL 251 yX9_spare ∈ bsG := bsG_in 1709 (by decide +kernel) rfl
theorem mlw_252 : Cond.methodLink RL 252 yL_fallback ∈ bsG := bsG_in 906 (by decide +kernel) rfl
theorem mlw_254 : Cond.methodLink RL 254 yX9_fallback ∈ bsG := bsG_in 1746 (by decide +kernel) rfl
theorem mlw_255 : Cond.methodLink RL 255 yL_weakest ∈ bsG := bsG_in 914 (by decide +kernel) rfl
theorem mlw_257 : Cond.methodLink RL 257 yX9_weakest ∈ bsG := bsG_in 1750 (by decide +kernel) rfl
theorem mlw_258 : Cond.methodLink RL 258 yL_twins ∈ bsG := bsG_in 921 (by decide +kernel) rfl
theorem mlw_260 : Cond.methodLink RL 260 yX9_twins ∈ bsG := bsG_in 1754 (by decide +kernel) rfl
theorem mlw_261 : Cond.methodLink RL 261 yL_sinking ∈ bsG := bsG_in 928 (by decide +kernel) rfl
theorem mlw_263 : Cond.methodLink RL 263 yX9_sinking ∈ bsG := bsG_in 1721 (by decide +kernel) rfl
theorem mlw_264 : Cond.methodLink RL 264 yL_floorWith ∈ bsG := bsG_in 935 (by decide +kernel) rfl
theorem mlw_266 : Cond.methodLink RL 266 yX9_floorWith ∈ bsG := bsG_in 1725 (by decide +kernel) rfl
theorem mlw_267 : Cond.methodLink RL 267 yL_mayHold ∈ bsG := bsG_in 950 (by decide +kernel) rfl
theorem mlw_269 : Cond.methodLink RL 269 yX9_mayHold ∈ bsG := bsG_in 1734 (by decide +kernel) rfl
theorem mlw_270 : Cond.methodLink RL 270 yL_mostBoots ∈ bsG := bsG_in 957 (by decide +kernel) rfl
theorem mlw_272 : Cond.methodLink RL 272 yX9_mostBoots ∈ bsG := bsG_in 1738 (by decide +kernel) rfl
theorem mlw_273 : Cond.methodLink RL 273 yL_bootsOf ∈ bsG := bsG_in 964 (by decide +kernel) rfl
theorem mlw_275 : Cond.methodLink RL 275 yX9_bootsOf ∈ bsG := bsG_in 1742 (by decide +kernel) rfl
theorem mlw_276 : Cond.methodLink RL 276 yL_stateIn ∈ bsG := bsG_in 972 (by decide +kernel) rfl
theorem mlw_278 : Cond.methodLink RL 278 yX9_stateIn ∈ bsG := bsG_in 1758 (by decide +kernel) rfl
theorem mlw_279 : Cond.methodLink RL 279 yL_slotIn ∈ bsG := bsG_in 1058 (by decide +kernel) rfl
theorem mlw_281 : Cond.methodLink RL 281 yX9_slotIn ∈ bsG := bsG_in 1827 (by decide +kernel) rfl
theorem mlw_282 : Cond.methodLink RL 282 yL_floorIn ∈ bsG := bsG_in 1065 (by decide +kernel) rfl
theorem mlw_284 : Cond.methodLink RL 284 yX9_floorIn ∈ bsG := bsG_in 1831 (by decide +kernel) rfl
theorem mlw_285 : Cond.methodLink RL 285 yL_bootsIn ∈ bsG := bsG_in 1072 (by decide +kernel) rfl
theorem mlw_287 : Cond.methodLink RL 287 yX9_bootsIn ∈ bsG := bsG_in 1835 (by decide +kernel) rfl
theorem mlw_288 : Cond.methodLink RL 288 yL_runsIn ∈ bsG := bsG_in 1079 (by decide +kernel) rfl
theorem mlw_290 : Cond.methodLink RL 290 yX9_runsIn ∈ bsG := bsG_in 1867 (by decide +kernel) rfl
theorem mlw_291 : Cond.methodLink RL 291 yL_crashesIn ∈ bsG := bsG_in 1086 (by decide +kernel) rfl
theorem mlw_293 : Cond.methodLink RL 293 yX9_crashesIn ∈ bsG := bsG_in 1871 (by decide +kernel) rfl
theorem mlw_294 : Cond.methodLink RL 294 yL_newerIn ∈ bsG := bsG_in 1093 (by decide +kernel) rfl
theorem mlw_296 : Cond.methodLink RL 296 yX9_newerIn ∈ bsG := bsG_in 1875 (by decide +kernel) rfl
theorem mlw_297 : Cond.methodLink RL 297 yL_rescueIn ∈ bsG := bsG_in 1106 (by decide +kernel) rfl
theorem mlw_299 : Cond.methodLink RL 299 yX9_rescueIn ∈ bsG := bsG_in 1839 (by decide +kernel) rfl
theorem mlw_300 : Cond.methodLink RL 300 yL_goodIn ∈ bsG := bsG_in 1117 (by decide +kernel) rfl
theorem mlw_302 : Cond.methodLink RL 302 yX9_goodIn ∈ bsG := bsG_in 1847 (by decide +kernel) rfl
theorem mlw_303 : Cond.methodLink RL 303 yL_calmIn ∈ bsG := bsG_in 1128 (by decide +kernel) rfl
theorem mlw_305 : Cond.methodLink RL 305 yX9_calmIn ∈ bsG := bsG_in 1855 (by decide +kernel) rfl
theorem mlw_306 : Cond.methodLink RL 306 yL_triesIn ∈ bsG := bsG_in 1135 (by decide +kernel) rfl
theorem mlw_308 : Cond.methodLink RL 308 yX9_triesIn ∈ bsG := bsG_in 1863 (by decide +kernel) rfl
theorem mlw_309 : Cond.methodLink RL 309 yL_ifBooted ∈ bsG := bsG_in 1142 (by decide +kernel) rfl
theorem mlw_311 : Cond.methodLink RL 311 yX9_ifBooted ∈ bsG := bsG_in 1896 (by decide +kernel) rfl
theorem mlw_312 : Cond.methodLink RL 312 yL_givenUpIf ∈ bsG := bsG_in 1150 (by decide +kernel) rfl
theorem mlw_314 : Cond.methodLink RL 314 yX9_givenUpIf ∈ bsG := bsG_in 1900 (by decide +kernel) rfl
theorem mlw_315 : Cond.methodLink RL 315 yL_settlesOn ∈ bsG := bsG_in 1157 (by decide +kernel) rfl
theorem mlw_317 : Cond.methodLink RL 317 yX9_settlesOn ∈ bsG := bsG_in 1904 (by decide +kernel) rfl
theorem mlw_318 : Cond.methodLink RL 318 yL_settlesWithout ∈ bsG := bsG_in 1168 (by decide +kernel) rfl
theorem mlw_320 : Cond.methodLink RL 320 yX9_settlesWithout ∈ bsG := bsG_in 1908 (by decide +kernel) rfl
theorem mlw_321 : Cond.methodLink RL 321 yL_ifInstalled ∈ bsG := bsG_in 1181 (by decide +kernel) rfl
theorem mlw_324 : Cond.methodLink RL 324 yX9_ifInstalled ∈ bsG := bsG_in 1883 (by decide +kernel) rfl
theorem mlw_325 : Cond.methodLink RL 325 yL_triesFor ∈ bsG := bsG_in 1194 (by decide +kernel) rfl
theorem mlw_327 : Cond.methodLink RL 327 yX9_triesFor ∈ bsG := bsG_in 1912 (by decide +kernel) rfl
theorem mlw_328 : Cond.methodLink RL 328 yL_bestWatch ∈ bsG := bsG_in 1201 (by decide +kernel) rfl
theorem mlw_330 : Cond.methodLink RL 330 yX9_bestWatch ∈ bsG := bsG_in 1920 (by decide +kernel) rfl
theorem mlw_331 : Cond.methodLink RL 331 yL_highestFloor ∈ bsG := bsG_in 1208 (by decide +kernel) rfl
theorem mlw_333 : Cond.methodLink RL 333 yX9_highestFloor ∈ bsG := bsG_in 1924 (by decide +kernel) rfl
theorem mlw_334 : Cond.methodLink RL 334 yL_keySlot ∈ bsG := bsG_in 1216 (by decide +kernel) rfl
theorem mlw_336 : Cond.methodLink RL 336 yX9_keySlot ∈ bsG := bsG_in 1928 (by decide +kernel) rfl
theorem mlw_344 : Cond.methodLink RL 344 yL_writeSlots ∈ bsG := bsG_in 1241 (by decide +kernel) rfl
theorem mlw_346 : Cond.methodLink RL 346 yX9_writeSlots ∈ bsG := bsG_in 1944 (by decide +kernel) rfl
theorem mlw_347 : Cond.methodLink RL 347 yL_writeBoots ∈ bsG := bsG_in 1265 (by decide +kernel) rfl
theorem mlw_349 : Cond.methodLink RL 349 yX9_writeBoots ∈ bsG := bsG_in 1960 (by decide +kernel) rfl
theorem mlw_350 : Cond.methodLink RL 350 yL_writeMachine ∈ bsG := bsG_in 1279 (by decide +kernel) rfl
theorem mlw_352 : Cond.methodLink RL 352 yX9_writeMachine ∈ bsG := bsG_in 1965 (by decide +kernel) rfl
theorem mlw_353 : Cond.methodLink RL 353 yL_textByte ∈ bsG := bsG_in 1312 (by decide +kernel) rfl
theorem mlw_355 : Cond.methodLink RL 355 yX9_textByte ∈ bsG := bsG_in 1987 (by decide +kernel) rfl
theorem mlw_356 : Cond.methodLink RL 356 yL_power ∈ bsG := bsG_in 1319 (by decide +kernel) rfl
theorem mlw_358 : Cond.methodLink RL 358 yX9_power ∈ bsG := bsG_in 1991 (by decide +kernel) rfl
theorem mlw_359 : Cond.methodLink RL 359 yL_cut ∈ bsG := bsG_in 1331 (by decide +kernel) rfl
theorem mlw_361 : Cond.methodLink RL 361 yX9_cut ∈ bsG := bsG_in 1999 (by decide +kernel) rfl
theorem mlw_362 : Cond.methodLink RL 362 yL_reboot ∈ bsG := bsG_in 1346 (by decide +kernel) rfl
theorem mlw_364 : Cond.methodLink RL 364 yX9_reboot ∈ bsG := bsG_in 2003 (by decide +kernel) rfl
theorem mlw_365 : Cond.methodLink RL 365 yL_tick ∈ bsG := bsG_in 1353 (by decide +kernel) rfl
theorem mlw_367 : Cond.methodLink RL 367 yX9_tick ∈ bsG := bsG_in 2007 (by decide +kernel) rfl
theorem mlw_368 : Cond.methodLink RL 368 yL_begin ∈ bsG := bsG_in 1360 (by decide +kernel) rfl
theorem mlw_371 : Cond.methodLink RL 371 yX9_begin ∈ bsG := bsG_in 2011 (by decide +kernel) rfl
theorem mlw_372 : Cond.methodLink RL 372 yL_spoil ∈ bsG := bsG_in 1367 (by decide +kernel) rfl
theorem mlw_374 : Cond.methodLink RL 374 yX9_spoil ∈ bsG := bsG_in 2018 (by decide +kernel) rfl
theorem mlw_375 : Cond.methodLink RL 375 yL_mark ∈ bsG := bsG_in 1374 (by decide +kernel) rfl
theorem mlw_377 : Cond.methodLink RL 377 yX9_mark ∈ bsG := bsG_in 2023 (by decide +kernel) rfl
theorem mlw_378 : Cond.methodLink RL 378 yL_setNumber ∈ bsG := bsG_in 1381 (by decide +kernel) rfl
theorem mlw_380 : Cond.methodLink RL 380 yX9_setNumber ∈ bsG := bsG_in 2029 (by decide +kernel) rfl
theorem mlw_381 : Cond.methodLink RL 381 yL_undo ∈ bsG := bsG_in 1404 (by decide +kernel) rfl
theorem mlw_383 : Cond.methodLink RL 383 yX9_undo ∈ bsG := bsG_in 2034 (by decide +kernel) rfl
theorem mlw_384 : Cond.methodLink RL 384 yX8_undoable ∈ bsG := bsG_in 501 (by decide +kernel) rfl
theorem mlw_387 : Cond.methodLink RL 387 yX9_undoable ∈ bsG := bsG_in 2038 (by decide +kernel) rfl
theorem mlw_388 : Cond.methodLink RL 388 yL_save ∈ bsG := bsG_in 1411 (by decide +kernel) rfl
theorem mlw_390 : Cond.methodLink RL 390 yX9_save ∈ bsG := bsG_in 2042 (by decide +kernel) rfl
theorem mlw_391 : Cond.methodLink RL 391 yL_restore ∈ bsG := bsG_in 1418 (by decide +kernel) rfl
theorem mlw_393 : Cond.methodLink RL 393 yX9_restore ∈ bsG := bsG_in 2046 (by decide +kernel) rfl
theorem dpX8_append : (parseMethodDescriptor yX8_append.desc).map (fun d => d.parameters.length) = some 5 := by decide +kernel
theorem wyX8_append : bsWy yX8_append cX8_append 6 (some .int) := ⟨bsG_in 482 (by decide +kernel) rfl, bsG_in 483 (by decide +kernel) rfl, bsG_in 102 (by decide +kernel) rfl, bsG_in 484 (by decide +kernel) rfl, by decide +kernel, by decide +kernel⟩
theorem dpX8_buffered : (parseMethodDescriptor yX8_buffered.desc).map (fun d => d.parameters.length) = some 0 := by decide +kernel
theorem wyX8_buffered : bsWy yX8_buffered cX8_buffered 1 (some .int) := ⟨bsG_in 498 (by decide +kernel) rfl, bsG_in 499 (by decide +kernel) rfl, bsG_in 102 (by decide +kernel) rfl, bsG_in 500 (by decide +kernel) rfl, by decide +kernel, by decide +kernel⟩
theorem dpX8_errorPosition : (parseMethodDescriptor yX8_errorPosition.desc).map (fun d => d.parameters.length) = some 0 := by decide +kernel
theorem wyX8_errorPosition : bsWy yX8_errorPosition cX8_errorPosition 1 (some .int) := ⟨bsG_in 494 (by decide +kernel) rfl, bsG_in 495 (by decide +kernel) rfl, bsG_in 102 (by decide +kernel) rfl, bsG_in 496 (by decide +kernel) rfl, by decide +kernel, by decide +kernel⟩
theorem dpX8_parseError : (parseMethodDescriptor yX8_parseError.desc).map (fun d => d.parameters.length) = some 0 := by decide +kernel
theorem wyX8_parseError : bsWy yX8_parseError cX8_parseError 1 (some .int) := ⟨bsG_in 490 (by decide +kernel) rfl, bsG_in 491 (by decide +kernel) rfl, bsG_in 102 (by decide +kernel) rfl, bsG_in 492 (by decide +kernel) rfl, by decide +kernel, by decide +kernel⟩
theorem dpX8_undoable : (parseMethodDescriptor yX8_undoable.desc).map (fun d => d.parameters.length) = some 0 := by decide +kernel
theorem wyX8_undoable : bsWy yX8_undoable cX8_undoable 1 (some .int) := ⟨bsG_in 502 (by decide +kernel) rfl, bsG_in 503 (by decide +kernel) rfl, bsG_in 102 (by decide +kernel) rfl, bsG_in 504 (by decide +kernel) rfl, by decide +kernel, by decide +kernel⟩
theorem dpX9_append : (parseMethodDescriptor yX9_append.desc).map (fun d => d.parameters.length) = some 5 := by decide +kernel
theorem wyX9_append : bsWy yX9_append cX9_append 8 (some .int) := ⟨bsG_in 1500 (by decide +kernel) rfl, bsG_in 1501 (by decide +kernel) rfl, bsG_in 111 (by decide +kernel) rfl, bsG_in 1502 (by decide +kernel) rfl, by decide +kernel, by decide +kernel⟩
theorem dpX9_begin : (parseMethodDescriptor yX9_begin.desc).map (fun d => d.parameters.length) = some 5 := by decide +kernel
theorem wyX9_begin : bsWy yX9_begin cX9_begin 6 (some .int) := ⟨bsG_in 2012 (by decide +kernel) rfl, bsG_in 2013 (by decide +kernel) rfl, bsG_in 111 (by decide +kernel) rfl, bsG_in 2014 (by decide +kernel) rfl, by decide +kernel, by decide +kernel⟩
theorem dpX9_bestWatch : (parseMethodDescriptor yX9_bestWatch.desc).map (fun d => d.parameters.length) = some 1 := by decide +kernel
theorem wyX9_bestWatch : bsWy yX9_bestWatch cX9_bestWatch 3 (some .int) := ⟨bsG_in 1921 (by decide +kernel) rfl, bsG_in 1922 (by decide +kernel) rfl, bsG_in 111 (by decide +kernel) rfl, bsG_in 1923 (by decide +kernel) rfl, by decide +kernel, by decide +kernel⟩
theorem dpX9_boot : (parseMethodDescriptor yX9_boot.desc).map (fun d => d.parameters.length) = some 2 := by decide +kernel
theorem wyX9_boot : bsWy yX9_boot cX9_boot 3 (some .int) := ⟨bsG_in 1678 (by decide +kernel) rfl, bsG_in 1679 (by decide +kernel) rfl, bsG_in 111 (by decide +kernel) rfl, bsG_in 1680 (by decide +kernel) rfl, by decide +kernel, by decide +kernel⟩
theorem dpX9_bootsIn : (parseMethodDescriptor yX9_bootsIn.desc).map (fun d => d.parameters.length) = some 1 := by decide +kernel
theorem wyX9_bootsIn : bsWy yX9_bootsIn cX9_bootsIn 2 (some .int) := ⟨bsG_in 1836 (by decide +kernel) rfl, bsG_in 1837 (by decide +kernel) rfl, bsG_in 111 (by decide +kernel) rfl, bsG_in 1838 (by decide +kernel) rfl, by decide +kernel, by decide +kernel⟩
theorem dpX9_bootsOf : (parseMethodDescriptor yX9_bootsOf.desc).map (fun d => d.parameters.length) = some 1 := by decide +kernel
theorem wyX9_bootsOf : bsWy yX9_bootsOf cX9_bootsOf 4 (some .int) := ⟨bsG_in 1743 (by decide +kernel) rfl, bsG_in 1744 (by decide +kernel) rfl, bsG_in 111 (by decide +kernel) rfl, bsG_in 1745 (by decide +kernel) rfl, by decide +kernel, by decide +kernel⟩
theorem dpX9_buffered : (parseMethodDescriptor yX9_buffered.desc).map (fun d => d.parameters.length) = some 0 := by decide +kernel
theorem wyX9_buffered : bsWy yX9_buffered cX9_buffered 1 (some .int) := ⟨bsG_in 1504 (by decide +kernel) rfl, bsG_in 1505 (by decide +kernel) rfl, bsG_in 111 (by decide +kernel) rfl, bsG_in 1506 (by decide +kernel) rfl, by decide +kernel, by decide +kernel⟩
theorem dpX9_calmIn : (parseMethodDescriptor yX9_calmIn.desc).map (fun d => d.parameters.length) = some 0 := by decide +kernel
theorem wyX9_calmIn : bsWy yX9_calmIn cX9_calmIn 1 (some .int) := ⟨bsG_in 1856 (by decide +kernel) rfl, bsG_in 1857 (by decide +kernel) rfl, bsG_in 111 (by decide +kernel) rfl, bsG_in 1858 (by decide +kernel) rfl, by decide +kernel, by decide +kernel⟩
theorem dpX9_choice : (parseMethodDescriptor yX9_choice.desc).map (fun d => d.parameters.length) = some 0 := by decide +kernel
theorem wyX9_choice : bsWy yX9_choice cX9_choice 1 (some .int) := ⟨bsG_in 1686 (by decide +kernel) rfl, bsG_in 1687 (by decide +kernel) rfl, bsG_in 111 (by decide +kernel) rfl, bsG_in 1688 (by decide +kernel) rfl, by decide +kernel, by decide +kernel⟩
theorem dpX9_count : (parseMethodDescriptor yX9_count.desc).map (fun d => d.parameters.length) = some 1 := by decide +kernel
theorem wyX9_count : bsWy yX9_count cX9_count 2 (some .int) := ⟨bsG_in 1626 (by decide +kernel) rfl, bsG_in 1627 (by decide +kernel) rfl, bsG_in 111 (by decide +kernel) rfl, bsG_in 1628 (by decide +kernel) rfl, by decide +kernel, by decide +kernel⟩
theorem dpX9_crashesIn : (parseMethodDescriptor yX9_crashesIn.desc).map (fun d => d.parameters.length) = some 1 := by decide +kernel
theorem wyX9_crashesIn : bsWy yX9_crashesIn cX9_crashesIn 2 (some .int) := ⟨bsG_in 1872 (by decide +kernel) rfl, bsG_in 1873 (by decide +kernel) rfl, bsG_in 111 (by decide +kernel) rfl, bsG_in 1874 (by decide +kernel) rfl, by decide +kernel, by decide +kernel⟩
theorem dpX9_cut : (parseMethodDescriptor yX9_cut.desc).map (fun d => d.parameters.length) = some 0 := by decide +kernel
theorem wyX9_cut : bsWy yX9_cut cX9_cut 2 (some .int) := ⟨bsG_in 2000 (by decide +kernel) rfl, bsG_in 2001 (by decide +kernel) rfl, bsG_in 111 (by decide +kernel) rfl, bsG_in 2002 (by decide +kernel) rfl, by decide +kernel, by decide +kernel⟩
theorem dpX9_errorPosition : (parseMethodDescriptor yX9_errorPosition.desc).map (fun d => d.parameters.length) = some 0 := by decide +kernel
theorem wyX9_errorPosition : bsWy yX9_errorPosition cX9_errorPosition 1 (some .int) := ⟨bsG_in 1512 (by decide +kernel) rfl, bsG_in 1513 (by decide +kernel) rfl, bsG_in 111 (by decide +kernel) rfl, bsG_in 1514 (by decide +kernel) rfl, by decide +kernel, by decide +kernel⟩
theorem dpX9_fallback : (parseMethodDescriptor yX9_fallback.desc).map (fun d => d.parameters.length) = some 0 := by decide +kernel
theorem wyX9_fallback : bsWy yX9_fallback cX9_fallback 3 (some .int) := ⟨bsG_in 1747 (by decide +kernel) rfl, bsG_in 1748 (by decide +kernel) rfl, bsG_in 111 (by decide +kernel) rfl, bsG_in 1749 (by decide +kernel) rfl, by decide +kernel, by decide +kernel⟩
theorem dpX9_floorIn : (parseMethodDescriptor yX9_floorIn.desc).map (fun d => d.parameters.length) = some 1 := by decide +kernel
theorem wyX9_floorIn : bsWy yX9_floorIn cX9_floorIn 2 (some .int) := ⟨bsG_in 1832 (by decide +kernel) rfl, bsG_in 1833 (by decide +kernel) rfl, bsG_in 111 (by decide +kernel) rfl, bsG_in 1834 (by decide +kernel) rfl, by decide +kernel, by decide +kernel⟩
theorem dpX9_floorWith : (parseMethodDescriptor yX9_floorWith.desc).map (fun d => d.parameters.length) = some 1 := by decide +kernel
theorem wyX9_floorWith : bsWy yX9_floorWith cX9_floorWith 2 (some .int) := ⟨bsG_in 1726 (by decide +kernel) rfl, bsG_in 1727 (by decide +kernel) rfl, bsG_in 111 (by decide +kernel) rfl, bsG_in 1728 (by decide +kernel) rfl, by decide +kernel, by decide +kernel⟩
theorem dpX9_givenUpIf : (parseMethodDescriptor yX9_givenUpIf.desc).map (fun d => d.parameters.length) = some 0 := by decide +kernel
theorem wyX9_givenUpIf : bsWy yX9_givenUpIf cX9_givenUpIf 1 (some .int) := ⟨bsG_in 1901 (by decide +kernel) rfl, bsG_in 1902 (by decide +kernel) rfl, bsG_in 111 (by decide +kernel) rfl, bsG_in 1903 (by decide +kernel) rfl, by decide +kernel, by decide +kernel⟩
theorem dpX9_goodIn : (parseMethodDescriptor yX9_goodIn.desc).map (fun d => d.parameters.length) = some 1 := by decide +kernel
theorem wyX9_goodIn : bsWy yX9_goodIn cX9_goodIn 2 (some .int) := ⟨bsG_in 1848 (by decide +kernel) rfl, bsG_in 1849 (by decide +kernel) rfl, bsG_in 111 (by decide +kernel) rfl, bsG_in 1850 (by decide +kernel) rfl, by decide +kernel, by decide +kernel⟩
theorem dpX9_highestFloor : (parseMethodDescriptor yX9_highestFloor.desc).map (fun d => d.parameters.length) = some 0 := by decide +kernel
theorem wyX9_highestFloor : bsWy yX9_highestFloor cX9_highestFloor 4 (some .int) := ⟨bsG_in 1925 (by decide +kernel) rfl, bsG_in 1926 (by decide +kernel) rfl, bsG_in 111 (by decide +kernel) rfl, bsG_in 1927 (by decide +kernel) rfl, by decide +kernel, by decide +kernel⟩
theorem dpX9_ifBooted : (parseMethodDescriptor yX9_ifBooted.desc).map (fun d => d.parameters.length) = some 0 := by decide +kernel
theorem wyX9_ifBooted : bsWy yX9_ifBooted cX9_ifBooted 2 (some .int) := ⟨bsG_in 1897 (by decide +kernel) rfl, bsG_in 1898 (by decide +kernel) rfl, bsG_in 111 (by decide +kernel) rfl, bsG_in 1899 (by decide +kernel) rfl, by decide +kernel, by decide +kernel⟩
theorem dpX9_ifInstalled : (parseMethodDescriptor yX9_ifInstalled.desc).map (fun d => d.parameters.length) = some 3 := by decide +kernel
theorem wyX9_ifInstalled : bsWy yX9_ifInstalled cX9_ifInstalled 4 (some .int) := ⟨bsG_in 1884 (by decide +kernel) rfl, bsG_in 1885 (by decide +kernel) rfl, bsG_in 111 (by decide +kernel) rfl, bsG_in 1886 (by decide +kernel) rfl, by decide +kernel, by decide +kernel⟩
theorem dpX9_image : (parseMethodDescriptor yX9_image.desc).map (fun d => d.parameters.length) = some 2 := by decide +kernel
theorem wyX9_image : bsWy yX9_image cX9_image 3 (some .int) := ⟨bsG_in 1668 (by decide +kernel) rfl, bsG_in 1669 (by decide +kernel) rfl, bsG_in 111 (by decide +kernel) rfl, bsG_in 1670 (by decide +kernel) rfl, by decide +kernel, by decide +kernel⟩
theorem dpX9_install : (parseMethodDescriptor yX9_install.desc).map (fun d => d.parameters.length) = some 1 := by decide +kernel
theorem wyX9_install : bsWy yX9_install cX9_install 2 (some .int) := ⟨bsG_in 1673 (by decide +kernel) rfl, bsG_in 1674 (by decide +kernel) rfl, bsG_in 111 (by decide +kernel) rfl, bsG_in 1675 (by decide +kernel) rfl, by decide +kernel, by decide +kernel⟩
theorem dpX9_keySlot : (parseMethodDescriptor yX9_keySlot.desc).map (fun d => d.parameters.length) = some 0 := by decide +kernel
theorem wyX9_keySlot : bsWy yX9_keySlot cX9_keySlot 5 (some .int) := ⟨bsG_in 1929 (by decide +kernel) rfl, bsG_in 1930 (by decide +kernel) rfl, bsG_in 111 (by decide +kernel) rfl, bsG_in 1931 (by decide +kernel) rfl, by decide +kernel, by decide +kernel⟩
theorem dpX9_load : (parseMethodDescriptor yX9_load.desc).map (fun d => d.parameters.length) = some 1 := by decide +kernel
theorem wyX9_load : bsWy yX9_load cX9_load 2 (some .int) := ⟨bsG_in 1516 (by decide +kernel) rfl, bsG_in 1517 (by decide +kernel) rfl, bsG_in 111 (by decide +kernel) rfl, bsG_in 1518 (by decide +kernel) rfl, by decide +kernel, by decide +kernel⟩
theorem dpX9_mark : (parseMethodDescriptor yX9_mark.desc).map (fun d => d.parameters.length) = some 3 := by decide +kernel
theorem wyX9_mark : bsWy yX9_mark cX9_mark 5 (some .int) := ⟨bsG_in 2024 (by decide +kernel) rfl, bsG_in 2025 (by decide +kernel) rfl, bsG_in 111 (by decide +kernel) rfl, bsG_in 2026 (by decide +kernel) rfl, by decide +kernel, by decide +kernel⟩
theorem dpX9_mayHold : (parseMethodDescriptor yX9_mayHold.desc).map (fun d => d.parameters.length) = some 1 := by decide +kernel
theorem wyX9_mayHold : bsWy yX9_mayHold cX9_mayHold 2 (some .boolean) := ⟨bsG_in 1735 (by decide +kernel) rfl, bsG_in 1736 (by decide +kernel) rfl, bsG_in 111 (by decide +kernel) rfl, bsG_in 1737 (by decide +kernel) rfl, by decide +kernel, by decide +kernel⟩
theorem dpX9_mostBoots : (parseMethodDescriptor yX9_mostBoots.desc).map (fun d => d.parameters.length) = some 0 := by decide +kernel
theorem wyX9_mostBoots : bsWy yX9_mostBoots cX9_mostBoots 3 (some .int) := ⟨bsG_in 1739 (by decide +kernel) rfl, bsG_in 1740 (by decide +kernel) rfl, bsG_in 111 (by decide +kernel) rfl, bsG_in 1741 (by decide +kernel) rfl, by decide +kernel, by decide +kernel⟩
theorem dpX9_newerIn : (parseMethodDescriptor yX9_newerIn.desc).map (fun d => d.parameters.length) = some 0 := by decide +kernel
theorem wyX9_newerIn : bsWy yX9_newerIn cX9_newerIn 1 (some .int) := ⟨bsG_in 1876 (by decide +kernel) rfl, bsG_in 1877 (by decide +kernel) rfl, bsG_in 111 (by decide +kernel) rfl, bsG_in 1878 (by decide +kernel) rfl, by decide +kernel, by decide +kernel⟩
theorem dpX9_newest : (parseMethodDescriptor yX9_newest.desc).map (fun d => d.parameters.length) = some 0 := by decide +kernel
theorem wyX9_newest : bsWy yX9_newest cX9_newest 3 (some .int) := ⟨bsG_in 1706 (by decide +kernel) rfl, bsG_in 1707 (by decide +kernel) rfl, bsG_in 111 (by decide +kernel) rfl, bsG_in 1708 (by decide +kernel) rfl, by decide +kernel, by decide +kernel⟩
theorem dpX9_parseError : (parseMethodDescriptor yX9_parseError.desc).map (fun d => d.parameters.length) = some 0 := by decide +kernel
theorem wyX9_parseError : bsWy yX9_parseError cX9_parseError 1 (some .int) := ⟨bsG_in 1508 (by decide +kernel) rfl, bsG_in 1509 (by decide +kernel) rfl, bsG_in 111 (by decide +kernel) rfl, bsG_in 1510 (by decide +kernel) rfl, by decide +kernel, by decide +kernel⟩
theorem dpX9_place : (parseMethodDescriptor yX9_place.desc).map (fun d => d.parameters.length) = some 1 := by decide +kernel
theorem wyX9_place : bsWy yX9_place cX9_place 2 (some .int) := ⟨bsG_in 1698 (by decide +kernel) rfl, bsG_in 1699 (by decide +kernel) rfl, bsG_in 111 (by decide +kernel) rfl, bsG_in 1700 (by decide +kernel) rfl, by decide +kernel, by decide +kernel⟩
theorem dpX9_power : (parseMethodDescriptor yX9_power.desc).map (fun d => d.parameters.length) = some 0 := by decide +kernel
theorem wyX9_power : bsWy yX9_power cX9_power 2 (some .int) := ⟨bsG_in 1992 (by decide +kernel) rfl, bsG_in 1993 (by decide +kernel) rfl, bsG_in 111 (by decide +kernel) rfl, bsG_in 1994 (by decide +kernel) rfl, by decide +kernel, by decide +kernel⟩
theorem dpX9_reboot : (parseMethodDescriptor yX9_reboot.desc).map (fun d => d.parameters.length) = some 0 := by decide +kernel
theorem wyX9_reboot : bsWy yX9_reboot cX9_reboot 2 (some .int) := ⟨bsG_in 2004 (by decide +kernel) rfl, bsG_in 2005 (by decide +kernel) rfl, bsG_in 111 (by decide +kernel) rfl, bsG_in 2006 (by decide +kernel) rfl, by decide +kernel, by decide +kernel⟩
theorem dpX9_rescueIn : (parseMethodDescriptor yX9_rescueIn.desc).map (fun d => d.parameters.length) = some 0 := by decide +kernel
theorem wyX9_rescueIn : bsWy yX9_rescueIn cX9_rescueIn 1 (some .int) := ⟨bsG_in 1840 (by decide +kernel) rfl, bsG_in 1841 (by decide +kernel) rfl, bsG_in 111 (by decide +kernel) rfl, bsG_in 1842 (by decide +kernel) rfl, by decide +kernel, by decide +kernel⟩
theorem dpX9_restore : (parseMethodDescriptor yX9_restore.desc).map (fun d => d.parameters.length) = some 1 := by decide +kernel
theorem wyX9_restore : bsWy yX9_restore cX9_restore 2 (some .int) := ⟨bsG_in 2047 (by decide +kernel) rfl, bsG_in 2048 (by decide +kernel) rfl, bsG_in 111 (by decide +kernel) rfl, bsG_in 2049 (by decide +kernel) rfl, by decide +kernel, by decide +kernel⟩
theorem dpX9_runsIn : (parseMethodDescriptor yX9_runsIn.desc).map (fun d => d.parameters.length) = some 2 := by decide +kernel
theorem wyX9_runsIn : bsWy yX9_runsIn cX9_runsIn 3 (some .int) := ⟨bsG_in 1868 (by decide +kernel) rfl, bsG_in 1869 (by decide +kernel) rfl, bsG_in 111 (by decide +kernel) rfl, bsG_in 1870 (by decide +kernel) rfl, by decide +kernel, by decide +kernel⟩
theorem dpX9_save : (parseMethodDescriptor yX9_save.desc).map (fun d => d.parameters.length) = some 1 := by decide +kernel
theorem wyX9_save : bsWy yX9_save cX9_save 2 (some .int) := ⟨bsG_in 2043 (by decide +kernel) rfl, bsG_in 2044 (by decide +kernel) rfl, bsG_in 111 (by decide +kernel) rfl, bsG_in 2045 (by decide +kernel) rfl, by decide +kernel, by decide +kernel⟩
theorem dpX9_setNumber : (parseMethodDescriptor yX9_setNumber.desc).map (fun d => d.parameters.length) = some 2 := by decide +kernel
theorem wyX9_setNumber : bsWy yX9_setNumber cX9_setNumber 4 (some .int) := ⟨bsG_in 2030 (by decide +kernel) rfl, bsG_in 2031 (by decide +kernel) rfl, bsG_in 111 (by decide +kernel) rfl, bsG_in 2032 (by decide +kernel) rfl, by decide +kernel, by decide +kernel⟩
theorem dpX9_settlesOn : (parseMethodDescriptor yX9_settlesOn.desc).map (fun d => d.parameters.length) = some 0 := by decide +kernel
theorem wyX9_settlesOn : bsWy yX9_settlesOn cX9_settlesOn 1 (some .int) := ⟨bsG_in 1905 (by decide +kernel) rfl, bsG_in 1906 (by decide +kernel) rfl, bsG_in 111 (by decide +kernel) rfl, bsG_in 1907 (by decide +kernel) rfl, by decide +kernel, by decide +kernel⟩
theorem dpX9_settlesWithout : (parseMethodDescriptor yX9_settlesWithout.desc).map (fun d => d.parameters.length) = some 1 := by decide +kernel
theorem wyX9_settlesWithout : bsWy yX9_settlesWithout cX9_settlesWithout 2 (some .int) := ⟨bsG_in 1909 (by decide +kernel) rfl, bsG_in 1910 (by decide +kernel) rfl, bsG_in 111 (by decide +kernel) rfl, bsG_in 1911 (by decide +kernel) rfl, by decide +kernel, by decide +kernel⟩
theorem dpX9_sinking : (parseMethodDescriptor yX9_sinking.desc).map (fun d => d.parameters.length) = some 0 := by decide +kernel
theorem wyX9_sinking : bsWy yX9_sinking cX9_sinking 3 (some .int) := ⟨bsG_in 1722 (by decide +kernel) rfl, bsG_in 1723 (by decide +kernel) rfl, bsG_in 111 (by decide +kernel) rfl, bsG_in 1724 (by decide +kernel) rfl, by decide +kernel, by decide +kernel⟩
theorem dpX9_slot : (parseMethodDescriptor yX9_slot.desc).map (fun d => d.parameters.length) = some 2 := by decide +kernel
theorem wyX9_slot : bsWy yX9_slot cX9_slot 3 (some .int) := ⟨bsG_in 1655 (by decide +kernel) rfl, bsG_in 1656 (by decide +kernel) rfl, bsG_in 111 (by decide +kernel) rfl, bsG_in 1657 (by decide +kernel) rfl, by decide +kernel, by decide +kernel⟩
theorem dpX9_slotIn : (parseMethodDescriptor yX9_slotIn.desc).map (fun d => d.parameters.length) = some 1 := by decide +kernel
theorem wyX9_slotIn : bsWy yX9_slotIn cX9_slotIn 2 (some .int) := ⟨bsG_in 1828 (by decide +kernel) rfl, bsG_in 1829 (by decide +kernel) rfl, bsG_in 111 (by decide +kernel) rfl, bsG_in 1830 (by decide +kernel) rfl, by decide +kernel, by decide +kernel⟩
theorem dpX9_spare : (parseMethodDescriptor yX9_spare.desc).map (fun d => d.parameters.length) = some 0 := by decide +kernel
theorem wyX9_spare : bsWy yX9_spare cX9_spare 3 (some .int) := ⟨bsG_in 1710 (by decide +kernel) rfl, bsG_in 1711 (by decide +kernel) rfl, bsG_in 111 (by decide +kernel) rfl, bsG_in 1712 (by decide +kernel) rfl, by decide +kernel, by decide +kernel⟩
theorem dpX9_spoil : (parseMethodDescriptor yX9_spoil.desc).map (fun d => d.parameters.length) = some 2 := by decide +kernel
theorem wyX9_spoil : bsWy yX9_spoil cX9_spoil 5 (some .int) := ⟨bsG_in 2019 (by decide +kernel) rfl, bsG_in 2020 (by decide +kernel) rfl, bsG_in 111 (by decide +kernel) rfl, bsG_in 2021 (by decide +kernel) rfl, by decide +kernel, by decide +kernel⟩
theorem dpX9_stateIn : (parseMethodDescriptor yX9_stateIn.desc).map (fun d => d.parameters.length) = some 1 := by decide +kernel
theorem wyX9_stateIn : bsWy yX9_stateIn cX9_stateIn 2 (some .int) := ⟨bsG_in 1759 (by decide +kernel) rfl, bsG_in 1760 (by decide +kernel) rfl, bsG_in 111 (by decide +kernel) rfl, bsG_in 1761 (by decide +kernel) rfl, by decide +kernel, by decide +kernel⟩
theorem dpX9_textByte : (parseMethodDescriptor yX9_textByte.desc).map (fun d => d.parameters.length) = some 1 := by decide +kernel
theorem wyX9_textByte : bsWy yX9_textByte cX9_textByte 2 (some .int) := ⟨bsG_in 1988 (by decide +kernel) rfl, bsG_in 1989 (by decide +kernel) rfl, bsG_in 111 (by decide +kernel) rfl, bsG_in 1990 (by decide +kernel) rfl, by decide +kernel, by decide +kernel⟩
theorem dpX9_thrown : (parseMethodDescriptor yX9_thrown.desc).map (fun d => d.parameters.length) = some 0 := by decide +kernel
theorem wyX9_thrown : bsWy yX9_thrown cX9_thrown 1 (some .int) := ⟨bsG_in 1496 (by decide +kernel) rfl, bsG_in 1497 (by decide +kernel) rfl, bsG_in 111 (by decide +kernel) rfl, bsG_in 1498 (by decide +kernel) rfl, by decide +kernel, by decide +kernel⟩
theorem dpX9_tick : (parseMethodDescriptor yX9_tick.desc).map (fun d => d.parameters.length) = some 1 := by decide +kernel
theorem wyX9_tick : bsWy yX9_tick cX9_tick 3 (some .int) := ⟨bsG_in 2008 (by decide +kernel) rfl, bsG_in 2009 (by decide +kernel) rfl, bsG_in 111 (by decide +kernel) rfl, bsG_in 2010 (by decide +kernel) rfl, by decide +kernel, by decide +kernel⟩
theorem dpX9_triesFor : (parseMethodDescriptor yX9_triesFor.desc).map (fun d => d.parameters.length) = some 1 := by decide +kernel
theorem wyX9_triesFor : bsWy yX9_triesFor cX9_triesFor 3 (some .int) := ⟨bsG_in 1913 (by decide +kernel) rfl, bsG_in 1914 (by decide +kernel) rfl, bsG_in 111 (by decide +kernel) rfl, bsG_in 1915 (by decide +kernel) rfl, by decide +kernel, by decide +kernel⟩
theorem dpX9_triesIn : (parseMethodDescriptor yX9_triesIn.desc).map (fun d => d.parameters.length) = some 2 := by decide +kernel
theorem wyX9_triesIn : bsWy yX9_triesIn cX9_triesIn 3 (some .int) := ⟨bsG_in 1864 (by decide +kernel) rfl, bsG_in 1865 (by decide +kernel) rfl, bsG_in 111 (by decide +kernel) rfl, bsG_in 1866 (by decide +kernel) rfl, by decide +kernel, by decide +kernel⟩
theorem dpX9_twins : (parseMethodDescriptor yX9_twins.desc).map (fun d => d.parameters.length) = some 1 := by decide +kernel
theorem wyX9_twins : bsWy yX9_twins cX9_twins 4 (some .int) := ⟨bsG_in 1755 (by decide +kernel) rfl, bsG_in 1756 (by decide +kernel) rfl, bsG_in 111 (by decide +kernel) rfl, bsG_in 1757 (by decide +kernel) rfl, by decide +kernel, by decide +kernel⟩
theorem dpX9_undo : (parseMethodDescriptor yX9_undo.desc).map (fun d => d.parameters.length) = some 0 := by decide +kernel
theorem wyX9_undo : bsWy yX9_undo cX9_undo 1 (some .int) := ⟨bsG_in 2035 (by decide +kernel) rfl, bsG_in 2036 (by decide +kernel) rfl, bsG_in 111 (by decide +kernel) rfl, bsG_in 2037 (by decide +kernel) rfl, by decide +kernel, by decide +kernel⟩
theorem dpX9_undoable : (parseMethodDescriptor yX9_undoable.desc).map (fun d => d.parameters.length) = some 0 := by decide +kernel
theorem wyX9_undoable : bsWy yX9_undoable cX9_undoable 1 (some .int) := ⟨bsG_in 2039 (by decide +kernel) rfl, bsG_in 2040 (by decide +kernel) rfl, bsG_in 111 (by decide +kernel) rfl, bsG_in 2041 (by decide +kernel) rfl, by decide +kernel, by decide +kernel⟩
theorem dpX9_weakest : (parseMethodDescriptor yX9_weakest.desc).map (fun d => d.parameters.length) = some 0 := by decide +kernel
theorem wyX9_weakest : bsWy yX9_weakest cX9_weakest 3 (some .int) := ⟨bsG_in 1751 (by decide +kernel) rfl, bsG_in 1752 (by decide +kernel) rfl, bsG_in 111 (by decide +kernel) rfl, bsG_in 1753 (by decide +kernel) rfl, by decide +kernel, by decide +kernel⟩
theorem dpX9_whyNot : (parseMethodDescriptor yX9_whyNot.desc).map (fun d => d.parameters.length) = some 1 := by decide +kernel
theorem wyX9_whyNot : bsWy yX9_whyNot cX9_whyNot 2 (some .int) := ⟨bsG_in 1682 (by decide +kernel) rfl, bsG_in 1683 (by decide +kernel) rfl, bsG_in 111 (by decide +kernel) rfl, bsG_in 1684 (by decide +kernel) rfl, by decide +kernel, by decide +kernel⟩
theorem dpX9_writeBoots : (parseMethodDescriptor yX9_writeBoots.desc).map (fun d => d.parameters.length) = some 0 := by decide +kernel
theorem wyX9_writeBoots : bsWy yX9_writeBoots cX9_writeBoots 3 (some .int) := ⟨bsG_in 1961 (by decide +kernel) rfl, bsG_in 1962 (by decide +kernel) rfl, bsG_in 111 (by decide +kernel) rfl, bsG_in 1963 (by decide +kernel) rfl, by decide +kernel, by decide +kernel⟩
theorem dpX9_writeMachine : (parseMethodDescriptor yX9_writeMachine.desc).map (fun d => d.parameters.length) = some 0 := by decide +kernel
theorem wyX9_writeMachine : bsWy yX9_writeMachine cX9_writeMachine 2 (some .int) := ⟨bsG_in 1966 (by decide +kernel) rfl, bsG_in 1967 (by decide +kernel) rfl, bsG_in 111 (by decide +kernel) rfl, bsG_in 1968 (by decide +kernel) rfl, by decide +kernel, by decide +kernel⟩
theorem dpX9_writeSlots : (parseMethodDescriptor yX9_writeSlots.desc).map (fun d => d.parameters.length) = some 0 := by decide +kernel
theorem wyX9_writeSlots : bsWy yX9_writeSlots cX9_writeSlots 2 (some .int) := ⟨bsG_in 1945 (by decide +kernel) rfl, bsG_in 1946 (by decide +kernel) rfl, bsG_in 111 (by decide +kernel) rfl, bsG_in 1947 (by decide +kernel) rfl, by decide +kernel, by decide +kernel⟩
theorem dpL_begin : (parseMethodDescriptor yL_begin.desc).map (fun d => d.parameters.length) = some 7 := by decide +kernel
theorem wwL_begin : Cond.static yL_begin ∈ bsG ∧ Cond.initialized yL_begin.cls ∈ bsG ∧ Cond.codeWith yL_begin cL_begin 8 (some .int) [(0, 16, 19, 20), (0, 16, 23, 13), (0, 16, 27, 15)] ∈ bsG ∧ (yL_begin.cls ≠ "java/lang/invoke/MethodHandle" ∧ yL_begin.cls ≠ "java/lang/invoke/VarHandle") := ⟨bsG_in 1361 (by decide +kernel) rfl, bsG_in 101 (by decide +kernel) rfl, bsG_in 1362 (by decide +kernel) rfl, by decide +kernel, by decide +kernel⟩
theorem dpL_bestWatch : (parseMethodDescriptor yL_bestWatch.desc).map (fun d => d.parameters.length) = some 3 := by decide +kernel
theorem wwL_bestWatch : Cond.static yL_bestWatch ∈ bsG ∧ Cond.initialized yL_bestWatch.cls ∈ bsG ∧ Cond.codeWith yL_bestWatch cL_bestWatch 4 (some .int) [(0, 9, 12, 20), (0, 9, 15, 13)] ∈ bsG ∧ (yL_bestWatch.cls ≠ "java/lang/invoke/MethodHandle" ∧ yL_bestWatch.cls ≠ "java/lang/invoke/VarHandle") := ⟨bsG_in 1202 (by decide +kernel) rfl, bsG_in 101 (by decide +kernel) rfl, bsG_in 1203 (by decide +kernel) rfl, by decide +kernel, by decide +kernel⟩
theorem dpL_boot : (parseMethodDescriptor yL_boot.desc).map (fun d => d.parameters.length) = some 4 := by decide +kernel
theorem wwL_boot : Cond.static yL_boot ∈ bsG ∧ Cond.initialized yL_boot.cls ∈ bsG ∧ Cond.codeWith yL_boot cL_boot 5 (some .int) [(0, 10, 13, 20), (0, 10, 17, 15)] ∈ bsG ∧ (yL_boot.cls ≠ "java/lang/invoke/MethodHandle" ∧ yL_boot.cls ≠ "java/lang/invoke/VarHandle") := ⟨bsG_in 833 (by decide +kernel) rfl, bsG_in 101 (by decide +kernel) rfl, bsG_in 834 (by decide +kernel) rfl, by decide +kernel, by decide +kernel⟩
theorem dpL_bootsIn : (parseMethodDescriptor yL_bootsIn.desc).map (fun d => d.parameters.length) = some 3 := by decide +kernel
theorem wwL_bootsIn : Cond.static yL_bootsIn ∈ bsG ∧ Cond.initialized yL_bootsIn.cls ∈ bsG ∧ Cond.codeWith yL_bootsIn cL_bootsIn 4 (some .int) [(0, 9, 12, 20), (0, 9, 15, 15)] ∈ bsG ∧ (yL_bootsIn.cls ≠ "java/lang/invoke/MethodHandle" ∧ yL_bootsIn.cls ≠ "java/lang/invoke/VarHandle") := ⟨bsG_in 1073 (by decide +kernel) rfl, bsG_in 101 (by decide +kernel) rfl, bsG_in 1074 (by decide +kernel) rfl, by decide +kernel, by decide +kernel⟩
theorem dpL_bootsOf : (parseMethodDescriptor yL_bootsOf.desc).map (fun d => d.parameters.length) = some 3 := by decide +kernel
theorem wwL_bootsOf : Cond.static yL_bootsOf ∈ bsG ∧ Cond.initialized yL_bootsOf.cls ∈ bsG ∧ Cond.codeWith yL_bootsOf cL_bootsOf 4 (some .int) [(0, 9, 12, 20), (0, 9, 15, 13)] ∈ bsG ∧ (yL_bootsOf.cls ≠ "java/lang/invoke/MethodHandle" ∧ yL_bootsOf.cls ≠ "java/lang/invoke/VarHandle") := ⟨bsG_in 965 (by decide +kernel) rfl, bsG_in 101 (by decide +kernel) rfl, bsG_in 966 (by decide +kernel) rfl, by decide +kernel, by decide +kernel⟩
theorem dpL_calmIn : (parseMethodDescriptor yL_calmIn.desc).map (fun d => d.parameters.length) = some 2 := by decide +kernel
theorem wwL_calmIn : Cond.static yL_calmIn ∈ bsG ∧ Cond.initialized yL_calmIn.cls ∈ bsG ∧ Cond.codeWith yL_calmIn cL_calmIn 3 (some .int) [(0, 8, 11, 20)] ∈ bsG ∧ (yL_calmIn.cls ≠ "java/lang/invoke/MethodHandle" ∧ yL_calmIn.cls ≠ "java/lang/invoke/VarHandle") := ⟨bsG_in 1129 (by decide +kernel) rfl, bsG_in 101 (by decide +kernel) rfl, bsG_in 1130 (by decide +kernel) rfl, by decide +kernel, by decide +kernel⟩
theorem dpL_choice : (parseMethodDescriptor yL_choice.desc).map (fun d => d.parameters.length) = some 2 := by decide +kernel
theorem wwL_choice : Cond.static yL_choice ∈ bsG ∧ Cond.initialized yL_choice.cls ∈ bsG ∧ Cond.codeWith yL_choice cL_choice 3 (some .int) [(0, 8, 11, 20)] ∈ bsG ∧ (yL_choice.cls ≠ "java/lang/invoke/MethodHandle" ∧ yL_choice.cls ≠ "java/lang/invoke/VarHandle") := ⟨bsG_in 862 (by decide +kernel) rfl, bsG_in 101 (by decide +kernel) rfl, bsG_in 863 (by decide +kernel) rfl, by decide +kernel, by decide +kernel⟩
theorem dpL_count : (parseMethodDescriptor yL_count.desc).map (fun d => d.parameters.length) = some 3 := by decide +kernel
theorem wwL_count : Cond.static yL_count ∈ bsG ∧ Cond.initialized yL_count.cls ∈ bsG ∧ Cond.codeWith yL_count cL_count 4 (some .int) [(0, 9, 12, 20), (0, 9, 15, 15)] ∈ bsG ∧ (yL_count.cls ≠ "java/lang/invoke/MethodHandle" ∧ yL_count.cls ≠ "java/lang/invoke/VarHandle") := ⟨bsG_in 742 (by decide +kernel) rfl, bsG_in 101 (by decide +kernel) rfl, bsG_in 743 (by decide +kernel) rfl, by decide +kernel, by decide +kernel⟩
theorem dpL_crashesIn : (parseMethodDescriptor yL_crashesIn.desc).map (fun d => d.parameters.length) = some 3 := by decide +kernel
theorem wwL_crashesIn : Cond.static yL_crashesIn ∈ bsG ∧ Cond.initialized yL_crashesIn.cls ∈ bsG ∧ Cond.codeWith yL_crashesIn cL_crashesIn 4 (some .int) [(0, 9, 12, 20), (0, 9, 15, 15)] ∈ bsG ∧ (yL_crashesIn.cls ≠ "java/lang/invoke/MethodHandle" ∧ yL_crashesIn.cls ≠ "java/lang/invoke/VarHandle") := ⟨bsG_in 1087 (by decide +kernel) rfl, bsG_in 101 (by decide +kernel) rfl, bsG_in 1088 (by decide +kernel) rfl, by decide +kernel, by decide +kernel⟩
theorem dpL_cut : (parseMethodDescriptor yL_cut.desc).map (fun d => d.parameters.length) = some 2 := by decide +kernel
theorem wwL_cut : Cond.static yL_cut ∈ bsG ∧ Cond.initialized yL_cut.cls ∈ bsG ∧ Cond.codeWith yL_cut cL_cut 3 (some .int) [(0, 8, 11, 20), (0, 8, 14, 15)] ∈ bsG ∧ (yL_cut.cls ≠ "java/lang/invoke/MethodHandle" ∧ yL_cut.cls ≠ "java/lang/invoke/VarHandle") := ⟨bsG_in 1332 (by decide +kernel) rfl, bsG_in 101 (by decide +kernel) rfl, bsG_in 1333 (by decide +kernel) rfl, by decide +kernel, by decide +kernel⟩
theorem dpL_fallback : (parseMethodDescriptor yL_fallback.desc).map (fun d => d.parameters.length) = some 2 := by decide +kernel
theorem wwL_fallback : Cond.static yL_fallback ∈ bsG ∧ Cond.initialized yL_fallback.cls ∈ bsG ∧ Cond.codeWith yL_fallback cL_fallback 3 (some .int) [(0, 8, 11, 20)] ∈ bsG ∧ (yL_fallback.cls ≠ "java/lang/invoke/MethodHandle" ∧ yL_fallback.cls ≠ "java/lang/invoke/VarHandle") := ⟨bsG_in 907 (by decide +kernel) rfl, bsG_in 101 (by decide +kernel) rfl, bsG_in 908 (by decide +kernel) rfl, by decide +kernel, by decide +kernel⟩
theorem dpL_floorIn : (parseMethodDescriptor yL_floorIn.desc).map (fun d => d.parameters.length) = some 3 := by decide +kernel
theorem wwL_floorIn : Cond.static yL_floorIn ∈ bsG ∧ Cond.initialized yL_floorIn.cls ∈ bsG ∧ Cond.codeWith yL_floorIn cL_floorIn 4 (some .int) [(0, 9, 12, 20), (0, 9, 15, 15)] ∈ bsG ∧ (yL_floorIn.cls ≠ "java/lang/invoke/MethodHandle" ∧ yL_floorIn.cls ≠ "java/lang/invoke/VarHandle") := ⟨bsG_in 1066 (by decide +kernel) rfl, bsG_in 101 (by decide +kernel) rfl, bsG_in 1067 (by decide +kernel) rfl, by decide +kernel, by decide +kernel⟩
theorem dpL_floorWith : (parseMethodDescriptor yL_floorWith.desc).map (fun d => d.parameters.length) = some 3 := by decide +kernel
theorem wwL_floorWith : Cond.static yL_floorWith ∈ bsG ∧ Cond.initialized yL_floorWith.cls ∈ bsG ∧ Cond.codeWith yL_floorWith cL_floorWith 4 (some .int) [(0, 9, 12, 20), (0, 9, 15, 13)] ∈ bsG ∧ (yL_floorWith.cls ≠ "java/lang/invoke/MethodHandle" ∧ yL_floorWith.cls ≠ "java/lang/invoke/VarHandle") := ⟨bsG_in 936 (by decide +kernel) rfl, bsG_in 101 (by decide +kernel) rfl, bsG_in 937 (by decide +kernel) rfl, by decide +kernel, by decide +kernel⟩
theorem dpL_givenUpIf : (parseMethodDescriptor yL_givenUpIf.desc).map (fun d => d.parameters.length) = some 2 := by decide +kernel
theorem wwL_givenUpIf : Cond.static yL_givenUpIf ∈ bsG ∧ Cond.initialized yL_givenUpIf.cls ∈ bsG ∧ Cond.codeWith yL_givenUpIf cL_givenUpIf 3 (some .int) [(0, 8, 11, 20)] ∈ bsG ∧ (yL_givenUpIf.cls ≠ "java/lang/invoke/MethodHandle" ∧ yL_givenUpIf.cls ≠ "java/lang/invoke/VarHandle") := ⟨bsG_in 1151 (by decide +kernel) rfl, bsG_in 101 (by decide +kernel) rfl, bsG_in 1152 (by decide +kernel) rfl, by decide +kernel, by decide +kernel⟩
theorem dpL_goodIn : (parseMethodDescriptor yL_goodIn.desc).map (fun d => d.parameters.length) = some 3 := by decide +kernel
theorem wwL_goodIn : Cond.static yL_goodIn ∈ bsG ∧ Cond.initialized yL_goodIn.cls ∈ bsG ∧ Cond.codeWith yL_goodIn cL_goodIn 4 (some .int) [(0, 9, 12, 20), (0, 9, 15, 13)] ∈ bsG ∧ (yL_goodIn.cls ≠ "java/lang/invoke/MethodHandle" ∧ yL_goodIn.cls ≠ "java/lang/invoke/VarHandle") := ⟨bsG_in 1118 (by decide +kernel) rfl, bsG_in 101 (by decide +kernel) rfl, bsG_in 1119 (by decide +kernel) rfl, by decide +kernel, by decide +kernel⟩
theorem dpL_highestFloor : (parseMethodDescriptor yL_highestFloor.desc).map (fun d => d.parameters.length) = some 2 := by decide +kernel
theorem wwL_highestFloor : Cond.static yL_highestFloor ∈ bsG ∧ Cond.initialized yL_highestFloor.cls ∈ bsG ∧ Cond.codeWith yL_highestFloor cL_highestFloor 3 (some .int) [(0, 8, 11, 20)] ∈ bsG ∧ (yL_highestFloor.cls ≠ "java/lang/invoke/MethodHandle" ∧ yL_highestFloor.cls ≠ "java/lang/invoke/VarHandle") := ⟨bsG_in 1209 (by decide +kernel) rfl, bsG_in 101 (by decide +kernel) rfl, bsG_in 1210 (by decide +kernel) rfl, by decide +kernel, by decide +kernel⟩
theorem dpL_ifBooted : (parseMethodDescriptor yL_ifBooted.desc).map (fun d => d.parameters.length) = some 2 := by decide +kernel
theorem wwL_ifBooted : Cond.static yL_ifBooted ∈ bsG ∧ Cond.initialized yL_ifBooted.cls ∈ bsG ∧ Cond.codeWith yL_ifBooted cL_ifBooted 3 (some .int) [(0, 8, 11, 20)] ∈ bsG ∧ (yL_ifBooted.cls ≠ "java/lang/invoke/MethodHandle" ∧ yL_ifBooted.cls ≠ "java/lang/invoke/VarHandle") := ⟨bsG_in 1143 (by decide +kernel) rfl, bsG_in 101 (by decide +kernel) rfl, bsG_in 1144 (by decide +kernel) rfl, by decide +kernel, by decide +kernel⟩
theorem dpL_ifInstalled : (parseMethodDescriptor yL_ifInstalled.desc).map (fun d => d.parameters.length) = some 5 := by decide +kernel
theorem wwL_ifInstalled : Cond.static yL_ifInstalled ∈ bsG ∧ Cond.initialized yL_ifInstalled.cls ∈ bsG ∧ Cond.codeWith yL_ifInstalled cL_ifInstalled 6 (some .int) [(0, 12, 15, 20), (0, 12, 19, 13), (0, 12, 23, 15)] ∈ bsG ∧ (yL_ifInstalled.cls ≠ "java/lang/invoke/MethodHandle" ∧ yL_ifInstalled.cls ≠ "java/lang/invoke/VarHandle") := ⟨bsG_in 1182 (by decide +kernel) rfl, bsG_in 101 (by decide +kernel) rfl, bsG_in 1183 (by decide +kernel) rfl, by decide +kernel, by decide +kernel⟩
theorem dpL_image : (parseMethodDescriptor yL_image.desc).map (fun d => d.parameters.length) = some 4 := by decide +kernel
theorem wwL_image : Cond.static yL_image ∈ bsG ∧ Cond.initialized yL_image.cls ∈ bsG ∧ Cond.codeWith yL_image cL_image 5 (some .int) [(0, 10, 13, 20), (0, 10, 17, 13), (0, 10, 21, 15)] ∈ bsG ∧ (yL_image.cls ≠ "java/lang/invoke/MethodHandle" ∧ yL_image.cls ≠ "java/lang/invoke/VarHandle") := ⟨bsG_in 812 (by decide +kernel) rfl, bsG_in 101 (by decide +kernel) rfl, bsG_in 813 (by decide +kernel) rfl, by decide +kernel, by decide +kernel⟩
theorem dpL_install : (parseMethodDescriptor yL_install.desc).map (fun d => d.parameters.length) = some 3 := by decide +kernel
theorem wwL_install : Cond.static yL_install ∈ bsG ∧ Cond.initialized yL_install.cls ∈ bsG ∧ Cond.codeWith yL_install cL_install 4 (some .int) [(0, 9, 12, 20), (0, 9, 15, 15)] ∈ bsG ∧ (yL_install.cls ≠ "java/lang/invoke/MethodHandle" ∧ yL_install.cls ≠ "java/lang/invoke/VarHandle") := ⟨bsG_in 822 (by decide +kernel) rfl, bsG_in 101 (by decide +kernel) rfl, bsG_in 823 (by decide +kernel) rfl, by decide +kernel, by decide +kernel⟩
theorem dpL_keySlot : (parseMethodDescriptor yL_keySlot.desc).map (fun d => d.parameters.length) = some 2 := by decide +kernel
theorem wwL_keySlot : Cond.static yL_keySlot ∈ bsG ∧ Cond.initialized yL_keySlot.cls ∈ bsG ∧ Cond.codeWith yL_keySlot cL_keySlot 3 (some .int) [(0, 8, 11, 20)] ∈ bsG ∧ (yL_keySlot.cls ≠ "java/lang/invoke/MethodHandle" ∧ yL_keySlot.cls ≠ "java/lang/invoke/VarHandle") := ⟨bsG_in 1217 (by decide +kernel) rfl, bsG_in 101 (by decide +kernel) rfl, bsG_in 1218 (by decide +kernel) rfl, by decide +kernel, by decide +kernel⟩
theorem dpL_load : (parseMethodDescriptor yL_load.desc).map (fun d => d.parameters.length) = some 3 := by decide +kernel
theorem wwL_load : Cond.static yL_load ∈ bsG ∧ Cond.initialized yL_load.cls ∈ bsG ∧ Cond.codeWith yL_load cL_load 4 (some .int) [(0, 9, 12, 13), (0, 9, 15, 15)] ∈ bsG ∧ (yL_load.cls ≠ "java/lang/invoke/MethodHandle" ∧ yL_load.cls ≠ "java/lang/invoke/VarHandle") := ⟨bsG_in 506 (by decide +kernel) rfl, bsG_in 101 (by decide +kernel) rfl, bsG_in 507 (by decide +kernel) rfl, by decide +kernel, by decide +kernel⟩
theorem dpL_mark : (parseMethodDescriptor yL_mark.desc).map (fun d => d.parameters.length) = some 5 := by decide +kernel
theorem wwL_mark : Cond.static yL_mark ∈ bsG ∧ Cond.initialized yL_mark.cls ∈ bsG ∧ Cond.codeWith yL_mark cL_mark 6 (some .int) [(0, 12, 15, 20), (0, 12, 19, 13), (0, 12, 23, 15)] ∈ bsG ∧ (yL_mark.cls ≠ "java/lang/invoke/MethodHandle" ∧ yL_mark.cls ≠ "java/lang/invoke/VarHandle") := ⟨bsG_in 1375 (by decide +kernel) rfl, bsG_in 101 (by decide +kernel) rfl, bsG_in 1376 (by decide +kernel) rfl, by decide +kernel, by decide +kernel⟩
theorem dpL_mayHold : (parseMethodDescriptor yL_mayHold.desc).map (fun d => d.parameters.length) = some 3 := by decide +kernel
theorem wwL_mayHold : Cond.static yL_mayHold ∈ bsG ∧ Cond.initialized yL_mayHold.cls ∈ bsG ∧ Cond.codeWith yL_mayHold cL_mayHold 4 (some .int) [(0, 16, 19, 20), (0, 16, 22, 13)] ∈ bsG ∧ (yL_mayHold.cls ≠ "java/lang/invoke/MethodHandle" ∧ yL_mayHold.cls ≠ "java/lang/invoke/VarHandle") := ⟨bsG_in 951 (by decide +kernel) rfl, bsG_in 101 (by decide +kernel) rfl, bsG_in 952 (by decide +kernel) rfl, by decide +kernel, by decide +kernel⟩
theorem dpL_mostBoots : (parseMethodDescriptor yL_mostBoots.desc).map (fun d => d.parameters.length) = some 2 := by decide +kernel
theorem wwL_mostBoots : Cond.static yL_mostBoots ∈ bsG ∧ Cond.initialized yL_mostBoots.cls ∈ bsG ∧ Cond.codeWith yL_mostBoots cL_mostBoots 3 (some .int) [(0, 8, 11, 20)] ∈ bsG ∧ (yL_mostBoots.cls ≠ "java/lang/invoke/MethodHandle" ∧ yL_mostBoots.cls ≠ "java/lang/invoke/VarHandle") := ⟨bsG_in 958 (by decide +kernel) rfl, bsG_in 101 (by decide +kernel) rfl, bsG_in 959 (by decide +kernel) rfl, by decide +kernel, by decide +kernel⟩
theorem dpL_newerIn : (parseMethodDescriptor yL_newerIn.desc).map (fun d => d.parameters.length) = some 2 := by decide +kernel
theorem wwL_newerIn : Cond.static yL_newerIn ∈ bsG ∧ Cond.initialized yL_newerIn.cls ∈ bsG ∧ Cond.codeWith yL_newerIn cL_newerIn 3 (some .int) [(0, 8, 11, 20)] ∈ bsG ∧ (yL_newerIn.cls ≠ "java/lang/invoke/MethodHandle" ∧ yL_newerIn.cls ≠ "java/lang/invoke/VarHandle") := ⟨bsG_in 1094 (by decide +kernel) rfl, bsG_in 101 (by decide +kernel) rfl, bsG_in 1095 (by decide +kernel) rfl, by decide +kernel, by decide +kernel⟩
theorem dpL_newest : (parseMethodDescriptor yL_newest.desc).map (fun d => d.parameters.length) = some 2 := by decide +kernel
theorem wwL_newest : Cond.static yL_newest ∈ bsG ∧ Cond.initialized yL_newest.cls ∈ bsG ∧ Cond.codeWith yL_newest cL_newest 3 (some .int) [(0, 8, 11, 20)] ∈ bsG ∧ (yL_newest.cls ≠ "java/lang/invoke/MethodHandle" ∧ yL_newest.cls ≠ "java/lang/invoke/VarHandle") := ⟨bsG_in 885 (by decide +kernel) rfl, bsG_in 101 (by decide +kernel) rfl, bsG_in 886 (by decide +kernel) rfl, by decide +kernel, by decide +kernel⟩
theorem dpL_place : (parseMethodDescriptor yL_place.desc).map (fun d => d.parameters.length) = some 3 := by decide +kernel
theorem wwL_place : Cond.static yL_place ∈ bsG ∧ Cond.initialized yL_place.cls ∈ bsG ∧ Cond.codeWith yL_place cL_place 4 (some .int) [(0, 9, 12, 20), (0, 9, 15, 13)] ∈ bsG ∧ (yL_place.cls ≠ "java/lang/invoke/MethodHandle" ∧ yL_place.cls ≠ "java/lang/invoke/VarHandle") := ⟨bsG_in 877 (by decide +kernel) rfl, bsG_in 101 (by decide +kernel) rfl, bsG_in 878 (by decide +kernel) rfl, by decide +kernel, by decide +kernel⟩
theorem dpL_power : (parseMethodDescriptor yL_power.desc).map (fun d => d.parameters.length) = some 2 := by decide +kernel
theorem wwL_power : Cond.static yL_power ∈ bsG ∧ Cond.initialized yL_power.cls ∈ bsG ∧ Cond.codeWith yL_power cL_power 3 (some .int) [(0, 8, 11, 20), (0, 8, 14, 15)] ∈ bsG ∧ (yL_power.cls ≠ "java/lang/invoke/MethodHandle" ∧ yL_power.cls ≠ "java/lang/invoke/VarHandle") := ⟨bsG_in 1320 (by decide +kernel) rfl, bsG_in 101 (by decide +kernel) rfl, bsG_in 1321 (by decide +kernel) rfl, by decide +kernel, by decide +kernel⟩
theorem dpL_reboot : (parseMethodDescriptor yL_reboot.desc).map (fun d => d.parameters.length) = some 2 := by decide +kernel
theorem wwL_reboot : Cond.static yL_reboot ∈ bsG ∧ Cond.initialized yL_reboot.cls ∈ bsG ∧ Cond.codeWith yL_reboot cL_reboot 3 (some .int) [(0, 8, 11, 20), (0, 8, 14, 15)] ∈ bsG ∧ (yL_reboot.cls ≠ "java/lang/invoke/MethodHandle" ∧ yL_reboot.cls ≠ "java/lang/invoke/VarHandle") := ⟨bsG_in 1347 (by decide +kernel) rfl, bsG_in 101 (by decide +kernel) rfl, bsG_in 1348 (by decide +kernel) rfl, by decide +kernel, by decide +kernel⟩
theorem dpL_rescueIn : (parseMethodDescriptor yL_rescueIn.desc).map (fun d => d.parameters.length) = some 2 := by decide +kernel
theorem wwL_rescueIn : Cond.static yL_rescueIn ∈ bsG ∧ Cond.initialized yL_rescueIn.cls ∈ bsG ∧ Cond.codeWith yL_rescueIn cL_rescueIn 3 (some .int) [(0, 8, 11, 20)] ∈ bsG ∧ (yL_rescueIn.cls ≠ "java/lang/invoke/MethodHandle" ∧ yL_rescueIn.cls ≠ "java/lang/invoke/VarHandle") := ⟨bsG_in 1107 (by decide +kernel) rfl, bsG_in 101 (by decide +kernel) rfl, bsG_in 1108 (by decide +kernel) rfl, by decide +kernel, by decide +kernel⟩
theorem dpL_restore : (parseMethodDescriptor yL_restore.desc).map (fun d => d.parameters.length) = some 3 := by decide +kernel
theorem wwL_restore : Cond.static yL_restore ∈ bsG ∧ Cond.initialized yL_restore.cls ∈ bsG ∧ Cond.codeWith yL_restore cL_restore 4 (some .int) [(0, 9, 12, 13), (0, 9, 15, 20)] ∈ bsG ∧ (yL_restore.cls ≠ "java/lang/invoke/MethodHandle" ∧ yL_restore.cls ≠ "java/lang/invoke/VarHandle") := ⟨bsG_in 1419 (by decide +kernel) rfl, bsG_in 101 (by decide +kernel) rfl, bsG_in 1420 (by decide +kernel) rfl, by decide +kernel, by decide +kernel⟩
theorem dpL_runsIn : (parseMethodDescriptor yL_runsIn.desc).map (fun d => d.parameters.length) = some 4 := by decide +kernel
theorem wwL_runsIn : Cond.static yL_runsIn ∈ bsG ∧ Cond.initialized yL_runsIn.cls ∈ bsG ∧ Cond.codeWith yL_runsIn cL_runsIn 5 (some .int) [(0, 10, 13, 20), (0, 10, 17, 13), (0, 10, 21, 15)] ∈ bsG ∧ (yL_runsIn.cls ≠ "java/lang/invoke/MethodHandle" ∧ yL_runsIn.cls ≠ "java/lang/invoke/VarHandle") := ⟨bsG_in 1080 (by decide +kernel) rfl, bsG_in 101 (by decide +kernel) rfl, bsG_in 1081 (by decide +kernel) rfl, by decide +kernel, by decide +kernel⟩
theorem dpL_save : (parseMethodDescriptor yL_save.desc).map (fun d => d.parameters.length) = some 3 := by decide +kernel
theorem wwL_save : Cond.static yL_save ∈ bsG ∧ Cond.initialized yL_save.cls ∈ bsG ∧ Cond.codeWith yL_save cL_save 4 (some .int) [(0, 9, 12, 20), (0, 9, 15, 13)] ∈ bsG ∧ (yL_save.cls ≠ "java/lang/invoke/MethodHandle" ∧ yL_save.cls ≠ "java/lang/invoke/VarHandle") := ⟨bsG_in 1412 (by decide +kernel) rfl, bsG_in 101 (by decide +kernel) rfl, bsG_in 1413 (by decide +kernel) rfl, by decide +kernel, by decide +kernel⟩
theorem dpL_setNumber : (parseMethodDescriptor yL_setNumber.desc).map (fun d => d.parameters.length) = some 4 := by decide +kernel
theorem wwL_setNumber : Cond.static yL_setNumber ∈ bsG ∧ Cond.initialized yL_setNumber.cls ∈ bsG ∧ Cond.codeWith yL_setNumber cL_setNumber 5 (some .int) [(0, 10, 13, 20), (0, 10, 17, 15)] ∈ bsG ∧ (yL_setNumber.cls ≠ "java/lang/invoke/MethodHandle" ∧ yL_setNumber.cls ≠ "java/lang/invoke/VarHandle") := ⟨bsG_in 1382 (by decide +kernel) rfl, bsG_in 101 (by decide +kernel) rfl, bsG_in 1383 (by decide +kernel) rfl, by decide +kernel, by decide +kernel⟩
theorem dpL_settlesOn : (parseMethodDescriptor yL_settlesOn.desc).map (fun d => d.parameters.length) = some 2 := by decide +kernel
theorem wwL_settlesOn : Cond.static yL_settlesOn ∈ bsG ∧ Cond.initialized yL_settlesOn.cls ∈ bsG ∧ Cond.codeWith yL_settlesOn cL_settlesOn 3 (some .int) [(0, 8, 11, 20)] ∈ bsG ∧ (yL_settlesOn.cls ≠ "java/lang/invoke/MethodHandle" ∧ yL_settlesOn.cls ≠ "java/lang/invoke/VarHandle") := ⟨bsG_in 1158 (by decide +kernel) rfl, bsG_in 101 (by decide +kernel) rfl, bsG_in 1159 (by decide +kernel) rfl, by decide +kernel, by decide +kernel⟩
theorem dpL_settlesWithout : (parseMethodDescriptor yL_settlesWithout.desc).map (fun d => d.parameters.length) = some 3 := by decide +kernel
theorem wwL_settlesWithout : Cond.static yL_settlesWithout ∈ bsG ∧ Cond.initialized yL_settlesWithout.cls ∈ bsG ∧ Cond.codeWith yL_settlesWithout cL_settlesWithout 4 (some .int) [(0, 9, 12, 20), (0, 9, 15, 13)] ∈ bsG ∧ (yL_settlesWithout.cls ≠ "java/lang/invoke/MethodHandle" ∧ yL_settlesWithout.cls ≠ "java/lang/invoke/VarHandle") := ⟨bsG_in 1169 (by decide +kernel) rfl, bsG_in 101 (by decide +kernel) rfl, bsG_in 1170 (by decide +kernel) rfl, by decide +kernel, by decide +kernel⟩
theorem dpL_sinking : (parseMethodDescriptor yL_sinking.desc).map (fun d => d.parameters.length) = some 2 := by decide +kernel
theorem wwL_sinking : Cond.static yL_sinking ∈ bsG ∧ Cond.initialized yL_sinking.cls ∈ bsG ∧ Cond.codeWith yL_sinking cL_sinking 3 (some .int) [(0, 8, 11, 20)] ∈ bsG ∧ (yL_sinking.cls ≠ "java/lang/invoke/MethodHandle" ∧ yL_sinking.cls ≠ "java/lang/invoke/VarHandle") := ⟨bsG_in 929 (by decide +kernel) rfl, bsG_in 101 (by decide +kernel) rfl, bsG_in 930 (by decide +kernel) rfl, by decide +kernel, by decide +kernel⟩
theorem dpL_slot : (parseMethodDescriptor yL_slot.desc).map (fun d => d.parameters.length) = some 4 := by decide +kernel
theorem wwL_slot : Cond.static yL_slot ∈ bsG ∧ Cond.initialized yL_slot.cls ∈ bsG ∧ Cond.codeWith yL_slot cL_slot 5 (some .int) [(0, 10, 13, 20), (0, 10, 17, 13), (0, 10, 21, 15)] ∈ bsG ∧ (yL_slot.cls ≠ "java/lang/invoke/MethodHandle" ∧ yL_slot.cls ≠ "java/lang/invoke/VarHandle") := ⟨bsG_in 797 (by decide +kernel) rfl, bsG_in 101 (by decide +kernel) rfl, bsG_in 798 (by decide +kernel) rfl, by decide +kernel, by decide +kernel⟩
theorem dpL_slotIn : (parseMethodDescriptor yL_slotIn.desc).map (fun d => d.parameters.length) = some 3 := by decide +kernel
theorem wwL_slotIn : Cond.static yL_slotIn ∈ bsG ∧ Cond.initialized yL_slotIn.cls ∈ bsG ∧ Cond.codeWith yL_slotIn cL_slotIn 4 (some .int) [(0, 9, 12, 20), (0, 9, 15, 15)] ∈ bsG ∧ (yL_slotIn.cls ≠ "java/lang/invoke/MethodHandle" ∧ yL_slotIn.cls ≠ "java/lang/invoke/VarHandle") := ⟨bsG_in 1059 (by decide +kernel) rfl, bsG_in 101 (by decide +kernel) rfl, bsG_in 1060 (by decide +kernel) rfl, by decide +kernel, by decide +kernel⟩
theorem dpL_spare : (parseMethodDescriptor yL_spare.desc).map (fun d => d.parameters.length) = some 2 := by decide +kernel
theorem wwL_spare : Cond.static yL_spare ∈ bsG ∧ Cond.initialized yL_spare.cls ∈ bsG ∧ Cond.codeWith yL_spare cL_spare 3 (some .int) [(0, 8, 11, 20)] ∈ bsG ∧ (yL_spare.cls ≠ "java/lang/invoke/MethodHandle" ∧ yL_spare.cls ≠ "java/lang/invoke/VarHandle") := ⟨bsG_in 892 (by decide +kernel) rfl, bsG_in 101 (by decide +kernel) rfl, bsG_in 893 (by decide +kernel) rfl, by decide +kernel, by decide +kernel⟩
theorem dpL_spoil : (parseMethodDescriptor yL_spoil.desc).map (fun d => d.parameters.length) = some 4 := by decide +kernel
theorem wwL_spoil : Cond.static yL_spoil ∈ bsG ∧ Cond.initialized yL_spoil.cls ∈ bsG ∧ Cond.codeWith yL_spoil cL_spoil 5 (some .int) [(0, 10, 13, 20), (0, 10, 17, 13), (0, 10, 21, 15)] ∈ bsG ∧ (yL_spoil.cls ≠ "java/lang/invoke/MethodHandle" ∧ yL_spoil.cls ≠ "java/lang/invoke/VarHandle") := ⟨bsG_in 1368 (by decide +kernel) rfl, bsG_in 101 (by decide +kernel) rfl, bsG_in 1369 (by decide +kernel) rfl, by decide +kernel, by decide +kernel⟩
theorem dpL_stateIn : (parseMethodDescriptor yL_stateIn.desc).map (fun d => d.parameters.length) = some 3 := by decide +kernel
theorem wwL_stateIn : Cond.static yL_stateIn ∈ bsG ∧ Cond.initialized yL_stateIn.cls ∈ bsG ∧ Cond.codeWith yL_stateIn cL_stateIn 4 (some .int) [(0, 9, 12, 20), (0, 9, 15, 15)] ∈ bsG ∧ (yL_stateIn.cls ≠ "java/lang/invoke/MethodHandle" ∧ yL_stateIn.cls ≠ "java/lang/invoke/VarHandle") := ⟨bsG_in 973 (by decide +kernel) rfl, bsG_in 101 (by decide +kernel) rfl, bsG_in 974 (by decide +kernel) rfl, by decide +kernel, by decide +kernel⟩
theorem dpL_textByte : (parseMethodDescriptor yL_textByte.desc).map (fun d => d.parameters.length) = some 3 := by decide +kernel
theorem wwL_textByte : Cond.static yL_textByte ∈ bsG ∧ Cond.initialized yL_textByte.cls ∈ bsG ∧ Cond.codeWith yL_textByte cL_textByte 4 (some .int) [(0, 9, 12, 13)] ∈ bsG ∧ (yL_textByte.cls ≠ "java/lang/invoke/MethodHandle" ∧ yL_textByte.cls ≠ "java/lang/invoke/VarHandle") := ⟨bsG_in 1313 (by decide +kernel) rfl, bsG_in 101 (by decide +kernel) rfl, bsG_in 1314 (by decide +kernel) rfl, by decide +kernel, by decide +kernel⟩
theorem dpL_tick : (parseMethodDescriptor yL_tick.desc).map (fun d => d.parameters.length) = some 3 := by decide +kernel
theorem wwL_tick : Cond.static yL_tick ∈ bsG ∧ Cond.initialized yL_tick.cls ∈ bsG ∧ Cond.codeWith yL_tick cL_tick 4 (some .int) [(0, 9, 12, 20), (0, 9, 15, 15)] ∈ bsG ∧ (yL_tick.cls ≠ "java/lang/invoke/MethodHandle" ∧ yL_tick.cls ≠ "java/lang/invoke/VarHandle") := ⟨bsG_in 1354 (by decide +kernel) rfl, bsG_in 101 (by decide +kernel) rfl, bsG_in 1355 (by decide +kernel) rfl, by decide +kernel, by decide +kernel⟩
theorem dpL_triesFor : (parseMethodDescriptor yL_triesFor.desc).map (fun d => d.parameters.length) = some 3 := by decide +kernel
theorem wwL_triesFor : Cond.static yL_triesFor ∈ bsG ∧ Cond.initialized yL_triesFor.cls ∈ bsG ∧ Cond.codeWith yL_triesFor cL_triesFor 4 (some .int) [(0, 9, 12, 20), (0, 9, 15, 13)] ∈ bsG ∧ (yL_triesFor.cls ≠ "java/lang/invoke/MethodHandle" ∧ yL_triesFor.cls ≠ "java/lang/invoke/VarHandle") := ⟨bsG_in 1195 (by decide +kernel) rfl, bsG_in 101 (by decide +kernel) rfl, bsG_in 1196 (by decide +kernel) rfl, by decide +kernel, by decide +kernel⟩
theorem dpL_triesIn : (parseMethodDescriptor yL_triesIn.desc).map (fun d => d.parameters.length) = some 4 := by decide +kernel
theorem wwL_triesIn : Cond.static yL_triesIn ∈ bsG ∧ Cond.initialized yL_triesIn.cls ∈ bsG ∧ Cond.codeWith yL_triesIn cL_triesIn 5 (some .int) [(0, 10, 13, 20), (0, 10, 17, 13), (0, 10, 21, 15)] ∈ bsG ∧ (yL_triesIn.cls ≠ "java/lang/invoke/MethodHandle" ∧ yL_triesIn.cls ≠ "java/lang/invoke/VarHandle") := ⟨bsG_in 1136 (by decide +kernel) rfl, bsG_in 101 (by decide +kernel) rfl, bsG_in 1137 (by decide +kernel) rfl, by decide +kernel, by decide +kernel⟩
theorem dpL_twins : (parseMethodDescriptor yL_twins.desc).map (fun d => d.parameters.length) = some 3 := by decide +kernel
theorem wwL_twins : Cond.static yL_twins ∈ bsG ∧ Cond.initialized yL_twins.cls ∈ bsG ∧ Cond.codeWith yL_twins cL_twins 4 (some .int) [(0, 9, 12, 20), (0, 9, 15, 13)] ∈ bsG ∧ (yL_twins.cls ≠ "java/lang/invoke/MethodHandle" ∧ yL_twins.cls ≠ "java/lang/invoke/VarHandle") := ⟨bsG_in 922 (by decide +kernel) rfl, bsG_in 101 (by decide +kernel) rfl, bsG_in 923 (by decide +kernel) rfl, by decide +kernel, by decide +kernel⟩
theorem dpL_undo : (parseMethodDescriptor yL_undo.desc).map (fun d => d.parameters.length) = some 2 := by decide +kernel
theorem wwL_undo : Cond.static yL_undo ∈ bsG ∧ Cond.initialized yL_undo.cls ∈ bsG ∧ Cond.codeWith yL_undo cL_undo 3 (some .int) [(0, 8, 11, 20)] ∈ bsG ∧ (yL_undo.cls ≠ "java/lang/invoke/MethodHandle" ∧ yL_undo.cls ≠ "java/lang/invoke/VarHandle") := ⟨bsG_in 1405 (by decide +kernel) rfl, bsG_in 101 (by decide +kernel) rfl, bsG_in 1406 (by decide +kernel) rfl, by decide +kernel, by decide +kernel⟩
theorem dpL_weakest : (parseMethodDescriptor yL_weakest.desc).map (fun d => d.parameters.length) = some 2 := by decide +kernel
theorem wwL_weakest : Cond.static yL_weakest ∈ bsG ∧ Cond.initialized yL_weakest.cls ∈ bsG ∧ Cond.codeWith yL_weakest cL_weakest 3 (some .int) [(0, 8, 11, 20)] ∈ bsG ∧ (yL_weakest.cls ≠ "java/lang/invoke/MethodHandle" ∧ yL_weakest.cls ≠ "java/lang/invoke/VarHandle") := ⟨bsG_in 915 (by decide +kernel) rfl, bsG_in 101 (by decide +kernel) rfl, bsG_in 916 (by decide +kernel) rfl, by decide +kernel, by decide +kernel⟩
theorem dpL_whyNot : (parseMethodDescriptor yL_whyNot.desc).map (fun d => d.parameters.length) = some 3 := by decide +kernel
theorem wwL_whyNot : Cond.static yL_whyNot ∈ bsG ∧ Cond.initialized yL_whyNot.cls ∈ bsG ∧ Cond.codeWith yL_whyNot cL_whyNot 4 (some .int) [(0, 9, 12, 20), (0, 9, 15, 13)] ∈ bsG ∧ (yL_whyNot.cls ≠ "java/lang/invoke/MethodHandle" ∧ yL_whyNot.cls ≠ "java/lang/invoke/VarHandle") := ⟨bsG_in 851 (by decide +kernel) rfl, bsG_in 101 (by decide +kernel) rfl, bsG_in 852 (by decide +kernel) rfl, by decide +kernel, by decide +kernel⟩
theorem dpL_writeBoots : (parseMethodDescriptor yL_writeBoots.desc).map (fun d => d.parameters.length) = some 2 := by decide +kernel
theorem wwL_writeBoots : Cond.static yL_writeBoots ∈ bsG ∧ Cond.initialized yL_writeBoots.cls ∈ bsG ∧ Cond.codeWith yL_writeBoots cL_writeBoots 3 (some .int) [(0, 8, 11, 20)] ∈ bsG ∧ (yL_writeBoots.cls ≠ "java/lang/invoke/MethodHandle" ∧ yL_writeBoots.cls ≠ "java/lang/invoke/VarHandle") := ⟨bsG_in 1266 (by decide +kernel) rfl, bsG_in 101 (by decide +kernel) rfl, bsG_in 1267 (by decide +kernel) rfl, by decide +kernel, by decide +kernel⟩
theorem dpL_writeMachine : (parseMethodDescriptor yL_writeMachine.desc).map (fun d => d.parameters.length) = some 2 := by decide +kernel
theorem wwL_writeMachine : Cond.static yL_writeMachine ∈ bsG ∧ Cond.initialized yL_writeMachine.cls ∈ bsG ∧ Cond.codeWith yL_writeMachine cL_writeMachine 3 (some .int) [(0, 8, 11, 20)] ∈ bsG ∧ (yL_writeMachine.cls ≠ "java/lang/invoke/MethodHandle" ∧ yL_writeMachine.cls ≠ "java/lang/invoke/VarHandle") := ⟨bsG_in 1280 (by decide +kernel) rfl, bsG_in 101 (by decide +kernel) rfl, bsG_in 1281 (by decide +kernel) rfl, by decide +kernel, by decide +kernel⟩
theorem dpL_writeSlots : (parseMethodDescriptor yL_writeSlots.desc).map (fun d => d.parameters.length) = some 2 := by decide +kernel
theorem wwL_writeSlots : Cond.static yL_writeSlots ∈ bsG ∧ Cond.initialized yL_writeSlots.cls ∈ bsG ∧ Cond.codeWith yL_writeSlots cL_writeSlots 3 (some .int) [(0, 8, 11, 20)] ∈ bsG ∧ (yL_writeSlots.cls ≠ "java/lang/invoke/MethodHandle" ∧ yL_writeSlots.cls ≠ "java/lang/invoke/VarHandle") := ⟨bsG_in 1242 (by decide +kernel) rfl, bsG_in 101 (by decide +kernel) rfl, bsG_in 1243 (by decide +kernel) rfl, by decide +kernel, by decide +kernel⟩
