/-! THE JDK: Integer.getChars -/
set_option maxHeartbeats 4000000 in
set_option maxRecDepth 100000 in
theorem qJ6_22 {p : Program} {l : Launch} {e : Env} {R : Room} {s : State} {m : MethodId} {args : Array Value} {below : List Frame} {meth : Method} {c : Code} {cells slots : Nat} {ρ : bsR} {sc L : Nat} {xs : Nat → Int32} {cA : Nat → ClassId} {dC : Nat → ClassId} {dI : Nat → Nat → Nat} {A : Nat → Prop} {Ts : List Cond} {X : bsX} {mc ms : Nat} (C : xCx p m c cJ6_getChars_ba4f3 7 s args Ts RJ6 ρ sc L xs cA dC dI A meth (some .int)) {P : Int32 → bsX → va_W → Prop} {R0 : va_W} {E : Nat × va_E} {v K n : Nat} (hm : K ≤ 65536) (hc1 : cells ≤ mc) (hc2 : slots ≤ ms) : ∀ (f w q : Nat) (a : Nat → Int32), w < f → w < 2 ^ 31 → q = n + sb_dg w → q ≤ K → (∀ a', (∀ j, j < n ∨ q ≤ j → a' j = a j) → (∀ i, i < sb_dg w → a' (q - 1 - i) = sb_b (48 + w / 10 ^ i % 10)) → (sb_Fit a → sb_Fit a') → P (nI n) X (R0 ++ [E, (v, byC cA K a')])) → xV p l e R s m args below meth c cells slots (MQ below (xQi ρ cA dC dI A P) args s mc ms A) ρ cA dC dI A (R0 ++ [E, (v, byC cA K a)]) 7 22 [(0, .int (-nI w)), (5, .int (nI q)), (2, .ref v), (6, .int 0)] [] X := by
  intro f
  induction f with
  | zero =>
    intro w q a h
    omega
  | succ f ih =>
    intro w q a hwf hw hq hqK hP
    have hd1 := (sb_dg_in w).1
    have e1 : -(-nI w) = nI w := Int32.neg_neg
    refine x_iload_n C dJ6_getChars_ba4f3_22 rfl rfl ?_
    refine x_bipush (v := (-100)) C dJ6_getChars_ba4f3_23 (by decide) ?_
    by_cases h100 : w < 100
    · refine x_icmp_gt (tgt := 72) C dJ6_getChars_ba4f3_25 (by decide) (fun _ => ?_) (fun h => absurd (show -nI 100 < -nI w from (sb_nlt (by decide) hw).mpr h100) h)
      refine x_aload_n C dJ6_getChars_ba4f3_72 rfl rfl ?_
      refine x_iinc (v := (nI (q - 1))) (lv' := [(5, .int (nI (q - 1))), (0, .int (-nI w)), (2, .ref v), (6, .int 0)]) C dJ6_getChars_ba4f3_73 (k0 := 1) rfl (show nI (q) + (-1) = nI (q - 1) from sb_m1 (by omega)) (by decide) rfl ?_
      refine x_iload C dJ6_getChars_ba4f3_76 rfl ?_
      refine x_gsDO C (bsG_in 635 (by decide +kernel) rfl) dJ6_getChars_ba4f3_78 ?_
      refine x_iload_n C dJ6_getChars_ba4f3_81 rfl rfl ?_
      refine x_ineg C dJ6_getChars_ba4f3_82 ?_
      refine x_topi (y := (nI w)) (e1) ?_
      refine x_DO (j := w) C (by omega) dJ6_getChars_ba4f3_83 ?_
      have hE84 : upd a (bsIx (nI (q - 1))) (vp_nar .byte (nI (48 + w % 10))) = (upd a (q - 1) (sb_b (48 + w % 10))) := by rw [show bsIx (nI (q - 1)) = q - 1 from nI_clamp (by omega), vp_nar_byte]; rfl
      have hv84 : (R0 ++ [E, (v, byC cA K a)])[R0.length + 1]? = some (v, byC cA K a) := (jd_at R0 _ 1).trans rfl
      refine x_bast (Rz' := (R0 ++ [E, (v, byC cA K (upd a (q - 1) (sb_b (48 + w % 10))))])) C hv84 (vp_in_iff.mp (vp_in_nI (by omega) (by omega))) ((jd_set R0 _ 1 _).trans (by rw [hE84]; rfl)) dJ6_getChars_ba4f3_84 ?_
      refine x_iload_n C dJ6_getChars_ba4f3_85 rfl rfl ?_
      refine x_bipush (v := (-9)) C dJ6_getChars_ba4f3_86 (by decide) ?_
      by_cases h9 : w < 10
      · have hd : sb_dg w = 1 := if_pos h9
        refine x_icmp_ge (tgt := 104) C dJ6_getChars_ba4f3_88 (by decide) (fun _ => ?_) (fun h => absurd (show -nI 9 ≤ -nI w from (sb_nle (by decide) hw).mpr (by omega)) h)
        rw [show nI (q - 1) = nI n from congrArg nI (by omega)]
        refine x_iload C dJ6_getChars_ba4f3_104 rfl ?_
        refine x_if_eq (tgt := 118) C dJ6_getChars_ba4f3_106 (by decide) (fun _ => ?_) (fun h => absurd (rfl) h)
        refine x_iload C dJ6_getChars_ba4f3_118 rfl ?_
        refine x_iret C (hP _ (fun j hj => pk_un (by omega)) (fun i hi => ?_) (fun hf => sb_fitU hf (sb_fitB _))) hc1 hc2 dJ6_getChars_ba4f3_120
        obtain rfl : i = 0 := by omega
        rw [Nat.sub_zero, pk_us, Nat.pow_zero, Nat.div_one]
      · have hd : sb_dg w = 2 := by rw [sb_dg, if_neg h9, if_pos h100]
        have d2 : w / 10 % 10 = w / 10 := by omega
        refine x_icmp_ge (tgt := 104) C dJ6_getChars_ba4f3_88 (by decide) (fun h => absurd h (fun z => by have := (sb_nle (by decide) hw).mp (show -nI 9 ≤ -nI w from z); omega)) (fun _ => ?_)
        refine x_aload_n C dJ6_getChars_ba4f3_91 rfl rfl ?_
        refine x_iinc (v := (nI (q - 1 - 1))) (lv' := [(5, .int (nI (q - 1 - 1))), (0, .int (-nI w)), (2, .ref v), (6, .int 0)]) C dJ6_getChars_ba4f3_92 (k0 := 0) rfl (show nI (q - 1) + (-1) = nI (q - 1 - 1) from sb_m1 (by omega)) (by decide) rfl ?_
        refine x_iload C dJ6_getChars_ba4f3_95 rfl ?_
        refine x_gsDT C (bsG_in 637 (by decide +kernel) rfl) dJ6_getChars_ba4f3_97 ?_
        refine x_iload_n C dJ6_getChars_ba4f3_100 rfl rfl ?_
        refine x_ineg C dJ6_getChars_ba4f3_101 ?_
        refine x_topi (y := (nI w)) (e1) ?_
        refine x_DT (j := w) C (by omega) dJ6_getChars_ba4f3_102 ?_
        have hE103 : upd (upd a (q - 1) (sb_b (48 + w % 10))) (bsIx (nI (q - 1 - 1))) (vp_nar .byte (nI (48 + w / 10))) = (upd (upd a (q - 1) (sb_b (48 + w % 10))) (q - 1 - 1) (sb_b (48 + w / 10))) := by rw [show bsIx (nI (q - 1 - 1)) = q - 1 - 1 from nI_clamp (by omega), vp_nar_byte]; rfl
        have hv103 : (R0 ++ [E, (v, byC cA K (upd a (q - 1) (sb_b (48 + w % 10))))])[R0.length + 1]? = some (v, byC cA K (upd a (q - 1) (sb_b (48 + w % 10)))) := (jd_at R0 _ 1).trans rfl
        refine x_bast (Rz' := (R0 ++ [E, (v, byC cA K (upd (upd a (q - 1) (sb_b (48 + w % 10))) (q - 1 - 1) (sb_b (48 + w / 10))))])) C hv103 (vp_in_iff.mp (vp_in_nI (by omega) (by omega))) ((jd_set R0 _ 1 _).trans (by rw [hE103]; rfl)) dJ6_getChars_ba4f3_103 ?_
        rw [show nI (q - 1 - 1) = nI n from congrArg nI (by omega)]
        refine x_iload C dJ6_getChars_ba4f3_104 rfl ?_
        refine x_if_eq (tgt := 118) C dJ6_getChars_ba4f3_106 (by decide) (fun _ => ?_) (fun h => absurd (rfl) h)
        refine x_iload C dJ6_getChars_ba4f3_118 rfl ?_
        refine x_iret C (hP _ (fun j hj => by rw [pk_un (by omega), pk_un (by omega)]) (fun i hi => ?_) (fun hf => sb_fitU (sb_fitU hf (sb_fitB _)) (sb_fitB _))) hc1 hc2 dJ6_getChars_ba4f3_120
        obtain rfl | rfl : i = 0 ∨ i = 1 := by omega
        · rw [Nat.sub_zero, pk_un (by omega), pk_us, Nat.pow_zero, Nat.div_one]
        · rw [pk_us, Nat.pow_one, d2]
    · have hd := sb_dg100 (w := w) (by omega) hw
      have hd2 := (sb_dg_in (w / 100)).1
      have d1 : w % 100 % 10 = w % 10 := by omega
      have d2 : w % 100 / 10 = w / 10 % 10 := by omega
      refine x_icmp_gt (tgt := 72) C dJ6_getChars_ba4f3_25 (by decide) (fun h => absurd h (fun z => h100 ((sb_nlt (by decide) hw).mp (show -nI 100 < -nI w from z)))) (fun _ => ?_)
      refine x_iload_n C dJ6_getChars_ba4f3_28 rfl rfl ?_
      refine x_bipush (v := 100) C dJ6_getChars_ba4f3_29 (by decide) ?_
      refine x_idiv C dJ6_getChars_ba4f3_31 (by decide) ?_
      refine x_topi (y := (-nI (w / 100))) (sb_ndiv hw) ?_
      refine x_istore_n (lv' := [(3, .int (-nI (w / 100))), (0, .int (-nI w)), (5, .int (nI q)), (2, .ref v), (6, .int 0)]) C dJ6_getChars_ba4f3_32 rfl (by decide) rfl ?_
      refine x_iload_n C dJ6_getChars_ba4f3_33 rfl rfl ?_
      refine x_bipush (v := 100) C dJ6_getChars_ba4f3_34 (by decide) ?_
      refine x_imul C dJ6_getChars_ba4f3_36 ?_
      refine x_iload_n C dJ6_getChars_ba4f3_37 rfl rfl ?_
      refine x_isub C dJ6_getChars_ba4f3_38 ?_
      refine x_topi (y := (nI (w % 100))) (sb_nrem hw) ?_
      refine x_istore (lv' := [(4, .int (nI (w % 100))), (3, .int (-nI (w / 100))), (0, .int (-nI w)), (5, .int (nI q)), (2, .ref v), (6, .int 0)]) C dJ6_getChars_ba4f3_39 (by decide) rfl ?_
      refine x_iload_n C dJ6_getChars_ba4f3_41 rfl rfl ?_
      refine x_istore_n (lv' := [(0, .int (-nI (w / 100))), (4, .int (nI (w % 100))), (3, .int (-nI (w / 100))), (5, .int (nI q)), (2, .ref v), (6, .int 0)]) C dJ6_getChars_ba4f3_42 rfl (by decide) rfl ?_
      refine x_aload_n C dJ6_getChars_ba4f3_43 rfl rfl ?_
      refine x_iinc (v := (nI (q - 1))) (lv' := [(5, .int (nI (q - 1))), (0, .int (-nI (w / 100))), (4, .int (nI (w % 100))), (3, .int (-nI (w / 100))), (2, .ref v), (6, .int 0)]) C dJ6_getChars_ba4f3_44 (k0 := 3) rfl (show nI (q) + (-1) = nI (q - 1) from sb_m1 (by omega)) (by decide) rfl ?_
      refine x_iload C dJ6_getChars_ba4f3_47 rfl ?_
      refine x_gsDO C (bsG_in 635 (by decide +kernel) rfl) dJ6_getChars_ba4f3_49 ?_
      refine x_iload C dJ6_getChars_ba4f3_52 rfl ?_
      refine x_DO (j := w % 100) C (by omega) dJ6_getChars_ba4f3_54 ?_
      have hE55 : upd a (bsIx (nI (q - 1))) (vp_nar .byte (nI (48 + w % 100 % 10))) = (upd a (q - 1) (sb_b (48 + w % 10))) := by rw [show bsIx (nI (q - 1)) = q - 1 from nI_clamp (by omega), vp_nar_byte, d1]; rfl
      have hv55 : (R0 ++ [E, (v, byC cA K a)])[R0.length + 1]? = some (v, byC cA K a) := (jd_at R0 _ 1).trans rfl
      refine x_bast (Rz' := (R0 ++ [E, (v, byC cA K (upd a (q - 1) (sb_b (48 + w % 10))))])) C hv55 (vp_in_iff.mp (vp_in_nI (by omega) (by omega))) ((jd_set R0 _ 1 _).trans (by rw [hE55]; rfl)) dJ6_getChars_ba4f3_55 ?_
      refine x_aload_n C dJ6_getChars_ba4f3_56 rfl rfl ?_
      refine x_iinc (v := (nI (q - 1 - 1))) (lv' := [(5, .int (nI (q - 1 - 1))), (0, .int (-nI (w / 100))), (4, .int (nI (w % 100))), (3, .int (-nI (w / 100))), (2, .ref v), (6, .int 0)]) C dJ6_getChars_ba4f3_57 (k0 := 0) rfl (show nI (q - 1) + (-1) = nI (q - 1 - 1) from sb_m1 (by omega)) (by decide) rfl ?_
      refine x_iload C dJ6_getChars_ba4f3_60 rfl ?_
      refine x_gsDT C (bsG_in 637 (by decide +kernel) rfl) dJ6_getChars_ba4f3_62 ?_
      refine x_iload C dJ6_getChars_ba4f3_65 rfl ?_
      refine x_DT (j := w % 100) C (by omega) dJ6_getChars_ba4f3_67 ?_
      have hE68 : upd (upd a (q - 1) (sb_b (48 + w % 10))) (bsIx (nI (q - 1 - 1))) (vp_nar .byte (nI (48 + w % 100 / 10))) = (upd (upd a (q - 1) (sb_b (48 + w % 10))) (q - 1 - 1) (sb_b (48 + w / 10 % 10))) := by rw [show bsIx (nI (q - 1 - 1)) = q - 1 - 1 from nI_clamp (by omega), vp_nar_byte, d2]; rfl
      have hv68 : (R0 ++ [E, (v, byC cA K (upd a (q - 1) (sb_b (48 + w % 10))))])[R0.length + 1]? = some (v, byC cA K (upd a (q - 1) (sb_b (48 + w % 10)))) := (jd_at R0 _ 1).trans rfl
      refine x_bast (Rz' := (R0 ++ [E, (v, byC cA K (upd (upd a (q - 1) (sb_b (48 + w % 10))) (q - 1 - 1) (sb_b (48 + w / 10 % 10))))])) C hv68 (vp_in_iff.mp (vp_in_nI (by omega) (by omega))) ((jd_set R0 _ 1 _).trans (by rw [hE68]; rfl)) dJ6_getChars_ba4f3_68 ?_
      refine x_goto (tgt := 22) C dJ6_getChars_ba4f3_69 (by decide) ?_
      refine x_sub [1, 0, 4, 5] rfl ?_
      refine ih (w / 100) (q - 1 - 1) _ (by omega) (by omega) (by omega) (by omega) (fun a' h1 h2 h3 => ?_)
      refine hP a' (fun j hj => by rw [h1 j (by omega), pk_un (by omega), pk_un (by omega)]) (fun i hi => ?_) (fun hf => h3 (sb_fitU (sb_fitU hf (sb_fitB _)) (sb_fitB _)))
      match i, hi with
      | 0, _ => rw [Nat.sub_zero, h1 _ (by omega), pk_un (by omega), pk_us, Nat.pow_zero, Nat.div_one]
      | 1, _ => rw [h1 _ (by omega), pk_us, Nat.pow_one]
      | k + 2, hi =>
        rw [show q - 1 - (k + 2) = q - 1 - 1 - 1 - k by omega, h2 k (by omega), Nat.div_div_eq_div_mul, show 100 * 10 ^ k = 10 ^ (k + 2) by rw [show k + 2 = k + 1 + 1 from rfl, Nat.pow_succ, Nat.pow_succ]; omega]
abbrev rmJ6_getChars_ba4f3 : Room := { frames := 0, cells := 0, slots := 0, locals := 0 }
set_option maxHeartbeats 4000000 in
set_option maxRecDepth 100000 in
theorem cJ6_getChars_ba4f3_ok {l : Launch} {ρ : bsR} {sc L : Nat} {xs : Nat → Int32} {cA : Nat → ClassId} {dC : Nat → ClassId} {dI : Nat → Nat → Nat} {X : bsX} {R0 : va_W} {E : Nat × va_E} {v K n w q : Nat} {a : Nat → Int32} (hK : K ≤ 65536) (hw : w < 2 ^ 31) (hq : q = n + sb_dg w) (hqK : q ≤ K) : xMi l yJ6_getChars_ba4f3 cJ6_getChars_ba4f3 7 (some .int) rmJ6_getChars_ba4f3 ρ sc L xs cA dC dI [.int (nI w), .int (nI q), .ref v] X (R0 ++ [E, (v, byC cA K a)]) (fun r X' R' => r = nI n ∧ X' = X ∧ ∃ a' : Nat → Int32, R' = R0 ++ [E, (v, byC cA K a')] ∧ (∀ j, j < n ∨ q ≤ j → a' j = a j) ∧ (∀ i, i < sb_dg w → a' (q - 1 - i) = sb_b (48 + w / 10 ^ i % 10)) ∧ (sb_Fit a → sb_Fit a')) := by
  refine xMi_of (by decide +kernel) (Nat.le_of_ble_eq_true rfl) (fun p e s m args below meth c C => ?_)
  have C : xCx p m c cJ6_getChars_ba4f3 7 s args (Cond.code yJ6_getChars_ba4f3 cJ6_getChars_ba4f3 7 (some .int) :: bsG) RJ6 ρ sc L xs cA dC dI (bsA ρ cA (R0 ++ [E, (v, byC cA K a)]) s.heap.size) meth (some .int) := C
  refine x_sub [0, 1, 2] rfl ?_
  refine x_iload_n C dJ6_getChars_ba4f3_0 rfl rfl ?_
  refine x_istore (lv' := [(5, .int (nI q)), (0, .int (nI w)), (1, .int (nI q)), (2, .ref v)]) C dJ6_getChars_ba4f3_1 (by decide) rfl ?_
  refine x_iload_n C dJ6_getChars_ba4f3_3 rfl rfl ?_
  refine x_if_ge (tgt := 11) C dJ6_getChars_ba4f3_4 (by decide) (fun _ => ?_) (fun h => absurd (nI_pos' hw) h)
  refine x_iconst (v := 0) C dJ6_getChars_ba4f3_11 (by decide) ?_
  refine x_istore (lv' := [(6, .int 0), (5, .int (nI q)), (0, .int (nI w)), (1, .int (nI q)), (2, .ref v)]) C dJ6_getChars_ba4f3_12 (by decide) rfl ?_
  refine x_iload C dJ6_getChars_ba4f3_14 rfl ?_
  refine x_if_ne (tgt := 22) C dJ6_getChars_ba4f3_16 (by decide) (fun h => absurd (rfl) h) (fun _ => ?_)
  refine x_iload_n C dJ6_getChars_ba4f3_19 rfl rfl ?_
  refine x_ineg C dJ6_getChars_ba4f3_20 ?_
  refine x_topi (y := (-nI w)) (rfl) ?_
  refine x_istore_n (lv' := [(0, .int (-nI w)), (6, .int 0), (5, .int (nI q)), (1, .int (nI q)), (2, .ref v)]) C dJ6_getChars_ba4f3_21 rfl (by decide) rfl ?_
  refine x_sub [0, 2, 4, 1] rfl ?_
  exact qJ6_22 C hK (Nat.le_of_ble_eq_true rfl) (Nat.le_of_ble_eq_true rfl) (w + 1) w q a (by omega) hw hq hqK (fun a' h1 h2 h3 => ⟨rfl, rfl, a', rfl, h1, h2, h3⟩)
