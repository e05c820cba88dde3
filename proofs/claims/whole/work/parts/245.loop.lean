/-! THE LAW: one round, all rounds -/
theorem lp_gt {L i : Nat} (hL : L ≤ 3072) (hi : i ≤ 4000) : nI L - 6 < nI i ↔ L < i + 6 := by
  by_cases h : 6 ≤ L
  · rw [show nI L - 6 = nI (L - 6) from pu_sub L 6 h, pu_lt _ _ (by omega) (by omega)]
    omega
  · have h2 : L = 0 ∨ L = 1 ∨ L = 2 ∨ L = 3 ∨ L = 4 ∨ L = 5 := by omega
    refine ⟨fun _ => by omega, fun _ => ?_⟩
    rw [Int32.lt_iff_toInt_lt, pu_toInt i (by omega)]
    have h3 : (nI L - 6).toInt < 0 := by
      rcases h2 with rfl | rfl | rfl | rfl | rfl | rfl <;> decide
    omega
theorem lp_sw {x : Int32} (h : ¬ (x.toInt < 0 ∨ 60 < x.toInt)) : ∃ k : Nat, k < 61 ∧ x = nI k := by
  refine ⟨x.toInt.toNat, by omega, ?_⟩
  rw [← Int32.toInt_inj, pu_toInt _ (by omega)]
  omega
set_option maxHeartbeats 4000000 in
set_option maxRecDepth 100000 in
theorem law_one {p : Program} {l : Launch} {e : Env} {s : State} {m : MethodId} {below : List Frame} {meth : Method} {c : Code} {ρ : bsR} {cA : Nat → ClassId} {dC : Nat → ClassId} {dI : Nat → Nat → Nat} {b L : Nat} {xs : Nat → Int32} (LC : lawC p l s m meth c ρ cA dC dI b L xs) {j : Nat} (hj : 6 * j + 6 ≤ L) {cells slots : Nat} (hc1 : cells + 9 ≤ 601024) (hc2 : slots + 54 ≤ 7293033) {X : bsX} {lo : Int64} {od : UInt64} (hI : Inv j X) (kk : ∀ (X : bsX) (lo : Int64) (od : UInt64), Inv (j + 1) X → lawV p l e s m below meth c ρ cA dC dI b (cells + 9) (slots + 54) 3507 [(0, .ref b), (1, .ref (ρ 13 0 0)), (2, .ref (ρ 14 0 0)), (3, .ref (ρ 15 0 0)), (4, .ref (ρ 15 1 0)), (5, .int (nI (6 * j)))] [] X lo od) (x : Int32) : lawV p l e s m below meth c ρ cA dC dI b cells slots 45 [(0, .ref b), (1, .ref (ρ 13 0 0)), (2, .ref (ρ 14 0 0)), (3, .ref (ρ 15 0 0)), (4, .ref (ρ 15 1 0)), (5, .int (nI (6 * j)))] [.int x] X lo od := by
  have C := LC.1 lo od
  by_cases hx : x.toInt < 0 ∨ 60 < x.toInt
  · refine v_tabOut (tgt := 3507) C dL_law_45 hx (by decide) ?_
    exact v_widen (by omega) (by omega) (kk X lo od ((quiet.refl X).inv hI))
  · obtain ⟨k, hk, rfl⟩ := lp_sw hx
    match k, hk with
    | 0, _ => exact v_tabIn (off := 259) (tgt := 304) C 0 dL_law_45 rfl (by decide) (by decide) rfl (by decide) (law_0 sim_append_ok LC hj hc1 hc2 hI kk)
    | 1, _ => exact v_tabIn (off := 332) (tgt := 377) C 1 dL_law_45 rfl (by decide) (by decide) rfl (by decide) (law_1 sim_load_ok LC hj hc1 hc2 hI kk)
    | 2, _ => exact v_tabIn (off := 388) (tgt := 433) C 2 dL_law_45 rfl (by decide) (by decide) rfl (by decide) (law_2 sim_parseError_ok LC hj hc1 hc2 hI kk)
    | 3, _ => exact v_tabIn (off := 401) (tgt := 446) C 3 dL_law_45 rfl (by decide) (by decide) rfl (by decide) (law_3 sim_errorPosition_ok LC hj hc1 hc2 hI kk)
    | 4, _ => exact v_tabIn (off := 414) (tgt := 459) C 4 dL_law_45 rfl (by decide) (by decide) rfl (by decide) (law_4 sim_buffered_ok LC hj hc1 hc2 hI kk)
    | 5, _ => exact v_tabIn (off := 427) (tgt := 472) C 5 dL_law_45 rfl (by decide) (by decide) rfl (by decide) (law_5 sim_count_ok LC hj hc1 hc2 hI kk)
    | 6, _ => exact v_tabIn (off := 483) (tgt := 528) C 6 dL_law_45 rfl (by decide) (by decide) rfl (by decide) (law_6 sim_slot_ok LC hj hc1 hc2 hI kk)
    | 7, _ => exact v_tabIn (off := 551) (tgt := 596) C 7 dL_law_45 rfl (by decide) (by decide) rfl (by decide) (law_7 sim_image_ok LC hj hc1 hc2 hI kk)
    | 8, _ => exact v_tabIn (off := 619) (tgt := 664) C 8 dL_law_45 rfl (by decide) (by decide) rfl (by decide) (law_8 sim_install_ok LC hj hc1 hc2 hI kk)
    | 9, _ => exact v_tabIn (off := 675) (tgt := 720) C 9 dL_law_45 rfl (by decide) (by decide) rfl (by decide) (law_9 sim_boot_ok LC hj hc1 hc2 hI kk)
    | 10, _ => exact v_tabIn (off := 743) (tgt := 788) C 10 dL_law_45 rfl (by decide) (by decide) rfl (by decide) (law_10 sim_whyNot_ok LC hj hc1 hc2 hI kk)
    | 11, _ => exact v_tabIn (off := 799) (tgt := 844) C 11 dL_law_45 rfl (by decide) (by decide) rfl (by decide) (law_11 sim_choice_ok LC hj hc1 hc2 hI kk)
    | 12, _ => exact v_tabIn (off := 843) (tgt := 888) C 12 dL_law_45 rfl (by decide) (by decide) rfl (by decide) (law_12 sim_place_ok LC hj hc1 hc2 hI kk)
    | 13, _ => exact v_tabIn (off := 899) (tgt := 944) C 13 dL_law_45 rfl (by decide) (by decide) rfl (by decide) (law_13 sim_newest_ok LC hj hc1 hc2 hI kk)
    | 14, _ => exact v_tabIn (off := 943) (tgt := 988) C 14 dL_law_45 rfl (by decide) (by decide) rfl (by decide) (law_14 sim_spare_ok LC hj hc1 hc2 hI kk)
    | 15, _ => exact v_tabIn (off := 987) (tgt := 1032) C 15 dL_law_45 rfl (by decide) (by decide) rfl (by decide) (law_15 sim_fallback_ok LC hj hc1 hc2 hI kk)
    | 16, _ => exact v_tabIn (off := 1031) (tgt := 1076) C 16 dL_law_45 rfl (by decide) (by decide) rfl (by decide) (law_16 sim_weakest_ok LC hj hc1 hc2 hI kk)
    | 17, _ => exact v_tabIn (off := 1075) (tgt := 1120) C 17 dL_law_45 rfl (by decide) (by decide) rfl (by decide) (law_17 sim_twins_ok LC hj hc1 hc2 hI kk)
    | 18, _ => exact v_tabIn (off := 1131) (tgt := 1176) C 18 dL_law_45 rfl (by decide) (by decide) rfl (by decide) (law_18 sim_sinking_ok LC hj hc1 hc2 hI kk)
    | 19, _ => exact v_tabIn (off := 1175) (tgt := 1220) C 19 dL_law_45 rfl (by decide) (by decide) rfl (by decide) (law_19 sim_floorWith_ok LC hj hc1 hc2 hI kk)
    | 20, _ => exact v_tabIn (off := 1231) (tgt := 1276) C 20 dL_law_45 rfl (by decide) (by decide) rfl (by decide) (law_20 sim_mayHold_ok LC hj hc1 hc2 hI kk)
    | 21, _ => exact v_tabIn (off := 1294) (tgt := 1339) C 21 dL_law_45 rfl (by decide) (by decide) rfl (by decide) (law_21 sim_mostBoots_ok LC hj hc1 hc2 hI kk)
    | 22, _ => exact v_tabIn (off := 1338) (tgt := 1383) C 22 dL_law_45 rfl (by decide) (by decide) rfl (by decide) (law_22 sim_bootsOf_ok LC hj hc1 hc2 hI kk)
    | 23, _ => exact v_tabIn (off := 1394) (tgt := 1439) C 23 dL_law_45 rfl (by decide) (by decide) rfl (by decide) (law_23 sim_stateIn_ok LC hj hc1 hc2 hI kk)
    | 24, _ => exact v_tabIn (off := 1450) (tgt := 1495) C 24 dL_law_45 rfl (by decide) (by decide) rfl (by decide) (law_24 sim_slotIn_ok LC hj hc1 hc2 hI kk)
    | 25, _ => exact v_tabIn (off := 1506) (tgt := 1551) C 25 dL_law_45 rfl (by decide) (by decide) rfl (by decide) (law_25 sim_floorIn_ok LC hj hc1 hc2 hI kk)
    | 26, _ => exact v_tabIn (off := 1562) (tgt := 1607) C 26 dL_law_45 rfl (by decide) (by decide) rfl (by decide) (law_26 sim_bootsIn_ok LC hj hc1 hc2 hI kk)
    | 27, _ => exact v_tabIn (off := 1618) (tgt := 1663) C 27 dL_law_45 rfl (by decide) (by decide) rfl (by decide) (law_27 sim_runsIn_ok LC hj hc1 hc2 hI kk)
    | 28, _ => exact v_tabIn (off := 1686) (tgt := 1731) C 28 dL_law_45 rfl (by decide) (by decide) rfl (by decide) (law_28 sim_crashesIn_ok LC hj hc1 hc2 hI kk)
    | 29, _ => exact v_tabIn (off := 1742) (tgt := 1787) C 29 dL_law_45 rfl (by decide) (by decide) rfl (by decide) (law_29 sim_newerIn_ok LC hj hc1 hc2 hI kk)
    | 30, _ => exact v_tabIn (off := 1786) (tgt := 1831) C 30 dL_law_45 rfl (by decide) (by decide) rfl (by decide) (law_30 sim_rescueIn_ok LC hj hc1 hc2 hI kk)
    | 31, _ => exact v_tabIn (off := 1830) (tgt := 1875) C 31 dL_law_45 rfl (by decide) (by decide) rfl (by decide) (law_31 sim_goodIn_ok LC hj hc1 hc2 hI kk)
    | 32, _ => exact v_tabIn (off := 1886) (tgt := 1931) C 32 dL_law_45 rfl (by decide) (by decide) rfl (by decide) (law_32 sim_calmIn_ok LC hj hc1 hc2 hI kk)
    | 33, _ => exact v_tabIn (off := 1930) (tgt := 1975) C 33 dL_law_45 rfl (by decide) (by decide) rfl (by decide) (law_33 sim_triesIn_ok LC hj hc1 hc2 hI kk)
    | 34, _ => exact v_tabIn (off := 1998) (tgt := 2043) C 34 dL_law_45 rfl (by decide) (by decide) rfl (by decide) (law_34 sim_ifBooted_ok LC hj hc1 hc2 hI kk)
    | 35, _ => exact v_tabIn (off := 2042) (tgt := 2087) C 35 dL_law_45 rfl (by decide) (by decide) rfl (by decide) (law_35 sim_givenUpIf_ok LC hj hc1 hc2 hI kk)
    | 36, _ => exact v_tabIn (off := 2086) (tgt := 2131) C 36 dL_law_45 rfl (by decide) (by decide) rfl (by decide) (law_36 sim_settlesOn_ok LC hj hc1 hc2 hI kk)
    | 37, _ => exact v_tabIn (off := 2130) (tgt := 2175) C 37 dL_law_45 rfl (by decide) (by decide) rfl (by decide) (law_37 sim_settlesWithout_ok LC hj hc1 hc2 hI kk)
    | 38, _ => exact v_tabIn (off := 2186) (tgt := 2231) C 38 dL_law_45 rfl (by decide) (by decide) rfl (by decide) (law_38 sim_ifInstalled_ok LC hj hc1 hc2 hI kk)
    | 39, _ => exact v_tabIn (off := 2266) (tgt := 2311) C 39 dL_law_45 rfl (by decide) (by decide) rfl (by decide) (law_39 sim_triesFor_ok LC hj hc1 hc2 hI kk)
    | 40, _ => exact v_tabIn (off := 2322) (tgt := 2367) C 40 dL_law_45 rfl (by decide) (by decide) rfl (by decide) (law_40 sim_bestWatch_ok LC hj hc1 hc2 hI kk)
    | 41, _ => exact v_tabIn (off := 2378) (tgt := 2423) C 41 dL_law_45 rfl (by decide) (by decide) rfl (by decide) (law_41 sim_highestFloor_ok LC hj hc1 hc2 hI kk)
    | 42, _ => exact v_tabIn (off := 2422) (tgt := 2467) C 42 dL_law_45 rfl (by decide) (by decide) rfl (by decide) (law_42 sim_keySlot_ok LC hj hc1 hc2 hI kk)
    | 43, _ => exact v_tabIn (off := 2466) (tgt := 2511) C 43 dL_law_45 rfl (by decide) (by decide) rfl (by decide) (law_43 sim_successShare_ok LC hj hc1 hc2 hI kk)
    | 44, _ => exact v_tabIn (off := 2532) (tgt := 2577) C 44 dL_law_45 rfl (by decide) (by decide) rfl (by decide) (law_44 sim_meanBoot_ok LC hj hc1 hc2 hI kk)
    | 45, _ => exact v_tabIn (off := 2597) (tgt := 2642) C 45 dL_law_45 rfl (by decide) (by decide) rfl (by decide) (law_45 sim_writeSlots_ok LC hj hc1 hc2 hI kk)
    | 46, _ => exact v_tabIn (off := 2641) (tgt := 2686) C 46 dL_law_45 rfl (by decide) (by decide) rfl (by decide) (law_46 sim_writeBoots_ok LC hj hc1 hc2 hI kk)
    | 47, _ => exact v_tabIn (off := 2685) (tgt := 2730) C 47 dL_law_45 rfl (by decide) (by decide) rfl (by decide) (law_47 sim_writeMachine_ok LC hj hc1 hc2 hI kk)
    | 48, _ => exact v_tabIn (off := 2729) (tgt := 2774) C 48 dL_law_45 rfl (by decide) (by decide) rfl (by decide) (law_48 sim_textByte_ok LC hj hc1 hc2 hI kk)
    | 49, _ => exact v_tabIn (off := 2785) (tgt := 2830) C 49 dL_law_45 rfl (by decide) (by decide) rfl (by decide) (law_49 sim_power_ok LC hj hc1 hc2 hI kk)
    | 50, _ => exact v_tabIn (off := 2829) (tgt := 2874) C 50 dL_law_45 rfl (by decide) (by decide) rfl (by decide) (law_50 sim_cut_ok LC hj hc1 hc2 hI kk)
    | 51, _ => exact v_tabIn (off := 2873) (tgt := 2918) C 51 dL_law_45 rfl (by decide) (by decide) rfl (by decide) (law_51 sim_reboot_ok LC hj hc1 hc2 hI kk)
    | 52, _ => exact v_tabIn (off := 2917) (tgt := 2962) C 52 dL_law_45 rfl (by decide) (by decide) rfl (by decide) (law_52 sim_tick_ok LC hj hc1 hc2 hI kk)
    | 53, _ => exact v_tabIn (off := 2973) (tgt := 3018) C 53 dL_law_45 rfl (by decide) (by decide) rfl (by decide) (law_53 sim_begin_ok LC hj hc1 hc2 hI kk)
    | 54, _ => exact v_tabIn (off := 3077) (tgt := 3122) C 54 dL_law_45 rfl (by decide) (by decide) rfl (by decide) (law_54 sim_spoil_ok LC hj hc1 hc2 hI kk)
    | 55, _ => exact v_tabIn (off := 3145) (tgt := 3190) C 55 dL_law_45 rfl (by decide) (by decide) rfl (by decide) (law_55 sim_mark_ok LC hj hc1 hc2 hI kk)
    | 56, _ => exact v_tabIn (off := 3225) (tgt := 3270) C 56 dL_law_45 rfl (by decide) (by decide) rfl (by decide) (law_56 sim_setNumber_ok LC hj hc1 hc2 hI kk)
    | 57, _ => exact v_tabIn (off := 3293) (tgt := 3338) C 57 dL_law_45 rfl (by decide) (by decide) rfl (by decide) (law_57 sim_undo_ok LC hj hc1 hc2 hI kk)
    | 58, _ => exact v_tabIn (off := 3337) (tgt := 3382) C 58 dL_law_45 rfl (by decide) (by decide) rfl (by decide) (law_58 sim_undoable_ok LC hj hc1 hc2 hI kk)
    | 59, _ => exact v_tabIn (off := 3350) (tgt := 3395) C 59 dL_law_45 rfl (by decide) (by decide) rfl (by decide) (law_59 sim_save_ok LC hj hc1 hc2 hI kk)
    | 60, _ => exact v_tabIn (off := 3406) (tgt := 3451) C 60 dL_law_45 rfl (by decide) (by decide) rfl (by decide) (law_60 sim_restore_ok LC hj hc1 hc2 hI kk)
    | k + 61, h => exact absurd h (by omega)
set_option maxHeartbeats 4000000 in
theorem law_end {p : Program} {l : Launch} {e : Env} {s : State} {m : MethodId} {below : List Frame} {meth : Method} {c : Code} {ρ : bsR} {cA : Nat → ClassId} {dC : Nat → ClassId} {dI : Nat → Nat → Nat} {b L : Nat} {xs : Nat → Int32} (LC : lawC p l s m meth c ρ cA dC dI b L xs) {cells slots : Nat} (hc1 : cells ≤ 601024) (hc2 : slots ≤ 7293033) {X : bsX} {lo : Int64} {od : UInt64} {lv : List (Nat × Value)} : lawV p l e s m below meth c ρ cA dC dI b cells slots 3513 lv [] X lo od := by
  have C := LC.1 lo od
  refine v_iconst (v := 1) C dL_law_3513 (by decide) ?_
  intro ls H locs hl hP hD hS
  refine va_forget (fun q hq => LC.2.2.2.2.2.2 lo od _ (hS.2.2 q hq)) ?_
  refine W.widen (k := 601024) (n := 7293033) hc1 hc2 ?_
  exact lw_ret (d0 := s.drawn) (Drawn.sameBut.refl s.drawn lw_cs) C.1.1 C.1.2.1 C.2.2.2.2.2 C.2.2.2.2.1 dL_law_3514
set_option maxHeartbeats 4000000 in
theorem law_loop {p : Program} {l : Launch} {e : Env} {s : State} {m : MethodId} {below : List Frame} {meth : Method} {c : Code} {ρ : bsR} {cA : Nat → ClassId} {dC : Nat → ClassId} {dI : Nat → Nat → Nat} {b L : Nat} {xs : Nat → Int32} (LC : lawC p l s m meth c ρ cA dC dI b L xs) : ∀ (n j cells slots : Nat) (X : bsX) (lo : Int64) (od : UInt64), L < 6 * j + 6 * n + 6 → 6 * j ≤ L → cells + 9 * n ≤ 601024 → slots + 54 * n ≤ 7293033 → Inv j X → lawV p l e s m below meth c ρ cA dC dI b cells slots 28 [(0, .ref b), (1, .ref (ρ 13 0 0)), (2, .ref (ρ 14 0 0)), (3, .ref (ρ 15 0 0)), (4, .ref (ρ 15 1 0)), (5, .int (nI (6 * j)))] [] X lo od := by
  have hL : L ≤ 3072 := LC.2.2.2.2.1
  intro n
  induction n with
  | zero =>
    intro j cells slots X lo od h1 h2 h3 h4 hI
    have C := LC.1 lo od
    refine v_iload C dL_law_28 rfl ?_
    refine v_aload_n C dL_law_30 rfl rfl ?_
    refine v_slenL C LC.2.1 LC.2.2.1 (LC.2.2.2.1 lo od) dL_law_31 ?_
    refine v_bipush (v := 6) C dL_law_32 (by decide) ?_
    refine v_isub C dL_law_34 ?_
    refine v_icmp_gt (tgt := 3513) C dL_law_35 (by decide) (fun _ => ?_) (fun hgt => ?_)
    · exact law_end LC (by omega) (by omega)
    · exact absurd ((lp_gt hL (by omega)).mpr (by omega)) hgt
  | succ n ih =>
    intro j cells slots X lo od h1 h2 h3 h4 hI
    have C := LC.1 lo od
    refine v_iload C dL_law_28 rfl ?_
    refine v_aload_n C dL_law_30 rfl rfl ?_
    refine v_slenL C LC.2.1 LC.2.2.1 (LC.2.2.2.1 lo od) dL_law_31 ?_
    refine v_bipush (v := 6) C dL_law_32 (by decide) ?_
    refine v_isub C dL_law_34 ?_
    refine v_icmp_gt (tgt := 3513) C dL_law_35 (by decide) (fun _ => ?_) (fun hgt => ?_)
    · exact law_end LC (by omega) (by omega)
    · have hj : 6 * j + 6 ≤ L := by
        refine Nat.le_of_not_lt fun q => hgt ((lp_gt hL (by omega)).mpr q)
      refine v_aload_n C dL_law_38 rfl rfl ?_
      refine v_iload C dL_law_39 rfl ?_
      refine v_sld0 C LC.2.1 LC.2.2.1 (LC.2.2.2.1 lo od) (i := 6 * j) (by omega) (by omega) dL_law_41 ?_
      refine v_bipush (v := 63) C dL_law_42 (by decide) ?_
      refine v_iand C dL_law_44 ?_
      refine law_one LC hj (by omega) (by omega) hI (fun X lo od hI => ?_) _
      have C := LC.1 lo od
      refine v_iinc (k0 := 5) (v := nI (6 * (j + 1))) (lv' := [(5, .int (nI (6 * (j + 1)))), (0, .ref b), (1, .ref (ρ 13 0 0)), (2, .ref (ρ 14 0 0)), (3, .ref (ρ 15 0 0)), (4, .ref (ρ 15 1 0))]) C dL_law_3507 rfl (by rw [show 6 * (j + 1) = 6 * j + 6 by omega, ← nI_add]; rfl) (by decide) rfl ?_
      refine v_goto (tgt := 28) C dL_law_3510 (by decide) ?_
      refine v_sub [1, 2, 3, 4, 5, 0] rfl ?_
      exact ih (j + 1) (cells + 9) (slots + 54) X lo od (by omega) (by omega) (by omega) (by omega) hI
