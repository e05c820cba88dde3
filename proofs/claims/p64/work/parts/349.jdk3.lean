/-! THE JDK: Integer.stringSize -/
abbrev rmJ6_stringSize_0f7a4 : Room := { frames := 0, cells := 0, slots := 0, locals := 0 }
set_option maxHeartbeats 4000000 in
set_option maxRecDepth 100000 in
theorem cJ6_stringSize_0f7a4_ok {l : Launch} {ρ : bsR} {sc L : Nat} {xs : Nat → Int32} {cA : Nat → ClassId} {dC : Nat → ClassId} {dI : Nat → Nat → Nat} {X : bsX} {w : Nat} {Rz : va_W} (hw : w < 2 ^ 31) : xMi l yJ6_stringSize_0f7a4 cJ6_stringSize_0f7a4 4 (some .int) rmJ6_stringSize_0f7a4 ρ sc L xs cA dC dI [.int (nI w)] X (Rz) (fun r X' R' => r = nI (sb_dg w) ∧ X' = X ∧ R' = Rz) := by
  refine xMi_of (by decide +kernel) (Nat.le_of_ble_eq_true rfl) (fun p e s m args below meth c C => ?_)
  have C : xCx p m c cJ6_stringSize_0f7a4 4 s args (Cond.code yJ6_stringSize_0f7a4 cJ6_stringSize_0f7a4 4 (some .int) :: bsG) RJ6 ρ sc L xs cA dC dI (bsA ρ cA (Rz) s.heap.size) meth (some .int) := C
  refine x_sub [0] rfl ?_
  refine x_iconst (v := 1) C dJ6_stringSize_0f7a4_0 (by decide) ?_
  refine x_istore_n (lv' := [(1, .int 1), (0, .int (nI w))]) C dJ6_stringSize_0f7a4_1 rfl (by decide) rfl ?_
  refine x_iload_n C dJ6_stringSize_0f7a4_2 rfl rfl ?_
  refine x_if_lt (tgt := 11) C dJ6_stringSize_0f7a4_3 (by decide) (fun h => absurd h (pu_neg _ hw)) (fun _ => ?_)
  refine x_iconst (v := 0) C dJ6_stringSize_0f7a4_6 (by decide) ?_
  refine x_istore_n (lv' := [(1, .int 0), (0, .int (nI w))]) C dJ6_stringSize_0f7a4_7 rfl (by decide) rfl ?_
  refine x_iload_n C dJ6_stringSize_0f7a4_8 rfl rfl ?_
  refine x_ineg C dJ6_stringSize_0f7a4_9 ?_
  refine x_topi (y := (-nI w)) (rfl) ?_
  refine x_istore_n (lv' := [(0, .int (-nI w)), (1, .int 0)]) C dJ6_stringSize_0f7a4_10 rfl (by decide) rfl ?_
  refine x_bipush (v := (-10)) C dJ6_stringSize_0f7a4_11 (by decide) ?_
  refine x_istore_n (lv' := [(2, .int (-10)), (0, .int (-nI w)), (1, .int 0)]) C dJ6_stringSize_0f7a4_13 rfl (by decide) rfl ?_
  refine x_iconst (v := 1) C dJ6_stringSize_0f7a4_14 (by decide) ?_
  refine x_istore_n (lv' := [(3, .int 1), (2, .int (-10)), (0, .int (-nI w)), (1, .int 0)]) C dJ6_stringSize_0f7a4_15 rfl (by decide) rfl ?_
  refine x_iload_n C dJ6_stringSize_0f7a4_16 rfl rfl ?_
  refine x_bipush (v := 10) C dJ6_stringSize_0f7a4_17 (by decide) ?_
  refine x_icmp_ge (tgt := 42) C dJ6_stringSize_0f7a4_19 (by decide) (fun h => absurd h (by decide)) (fun _ => ?_)
  refine x_iload_n C dJ6_stringSize_0f7a4_22 rfl rfl ?_
  refine x_iload_n C dJ6_stringSize_0f7a4_23 rfl rfl ?_
  refine x_icmp_le (tgt := 31) C dJ6_stringSize_0f7a4_24 (by decide) (fun hb => ?_) (fun hb => ?_)
  rotate_left
  · have hw1 : w < 10 := Nat.lt_of_not_le (fun g => hb ((sb_nle (a := w) (b := 10) hw (by decide)).mpr g))
    refine x_iload_n C dJ6_stringSize_0f7a4_27 rfl rfl ?_
    refine x_iload_n C dJ6_stringSize_0f7a4_28 rfl rfl ?_
    refine x_iadd C dJ6_stringSize_0f7a4_29 ?_
    have hd : sb_dg w = 1 := by unfold sb_dg; (repeat' split) <;> omega
    refine x_topi (y := (nI (sb_dg w))) (by rw [hd]; decide) ?_
    exact x_iret C (⟨rfl, rfl, rfl⟩) (Nat.le_of_ble_eq_true rfl) (Nat.le_of_ble_eq_true rfl) dJ6_stringSize_0f7a4_30
  have hw1 : 10 ≤ w := (sb_nle (a := w) (b := 10) hw (by decide)).mp (show -nI w ≤ -nI 10 from hb)
  clear hb
  refine x_bipush (v := 10) C dJ6_stringSize_0f7a4_31 (by decide) ?_
  refine x_iload_n C dJ6_stringSize_0f7a4_33 rfl rfl ?_
  refine x_imul C dJ6_stringSize_0f7a4_34 ?_
  refine x_topi (y := (-100)) (by decide) ?_
  refine x_istore_n (lv' := [(2, .int (-100)), (3, .int 1), (0, .int (-nI w)), (1, .int 0)]) C dJ6_stringSize_0f7a4_35 rfl (by decide) rfl ?_
  refine x_iinc (v := 2) (lv' := [(3, .int 2), (2, .int (-100)), (0, .int (-nI w)), (1, .int 0)]) C dJ6_stringSize_0f7a4_36 (k0 := 1) rfl (by decide) (by decide) rfl ?_
  refine x_goto (tgt := 16) C dJ6_stringSize_0f7a4_39 (by decide) ?_
  refine x_iload_n C dJ6_stringSize_0f7a4_16 rfl rfl ?_
  refine x_bipush (v := 10) C dJ6_stringSize_0f7a4_17 (by decide) ?_
  refine x_icmp_ge (tgt := 42) C dJ6_stringSize_0f7a4_19 (by decide) (fun h => absurd h (by decide)) (fun _ => ?_)
  refine x_iload_n C dJ6_stringSize_0f7a4_22 rfl rfl ?_
  refine x_iload_n C dJ6_stringSize_0f7a4_23 rfl rfl ?_
  refine x_icmp_le (tgt := 31) C dJ6_stringSize_0f7a4_24 (by decide) (fun hb => ?_) (fun hb => ?_)
  rotate_left
  · have hw2 : w < 100 := Nat.lt_of_not_le (fun g => hb ((sb_nle (a := w) (b := 100) hw (by decide)).mpr g))
    refine x_iload_n C dJ6_stringSize_0f7a4_27 rfl rfl ?_
    refine x_iload_n C dJ6_stringSize_0f7a4_28 rfl rfl ?_
    refine x_iadd C dJ6_stringSize_0f7a4_29 ?_
    have hd : sb_dg w = 2 := by unfold sb_dg; (repeat' split) <;> omega
    refine x_topi (y := (nI (sb_dg w))) (by rw [hd]; decide) ?_
    exact x_iret C (⟨rfl, rfl, rfl⟩) (Nat.le_of_ble_eq_true rfl) (Nat.le_of_ble_eq_true rfl) dJ6_stringSize_0f7a4_30
  have hw2 : 100 ≤ w := (sb_nle (a := w) (b := 100) hw (by decide)).mp (show -nI w ≤ -nI 100 from hb)
  clear hb
  refine x_bipush (v := 10) C dJ6_stringSize_0f7a4_31 (by decide) ?_
  refine x_iload_n C dJ6_stringSize_0f7a4_33 rfl rfl ?_
  refine x_imul C dJ6_stringSize_0f7a4_34 ?_
  refine x_topi (y := (-1000)) (by decide) ?_
  refine x_istore_n (lv' := [(2, .int (-1000)), (3, .int 2), (0, .int (-nI w)), (1, .int 0)]) C dJ6_stringSize_0f7a4_35 rfl (by decide) rfl ?_
  refine x_iinc (v := 3) (lv' := [(3, .int 3), (2, .int (-1000)), (0, .int (-nI w)), (1, .int 0)]) C dJ6_stringSize_0f7a4_36 (k0 := 1) rfl (by decide) (by decide) rfl ?_
  refine x_goto (tgt := 16) C dJ6_stringSize_0f7a4_39 (by decide) ?_
  refine x_iload_n C dJ6_stringSize_0f7a4_16 rfl rfl ?_
  refine x_bipush (v := 10) C dJ6_stringSize_0f7a4_17 (by decide) ?_
  refine x_icmp_ge (tgt := 42) C dJ6_stringSize_0f7a4_19 (by decide) (fun h => absurd h (by decide)) (fun _ => ?_)
  refine x_iload_n C dJ6_stringSize_0f7a4_22 rfl rfl ?_
  refine x_iload_n C dJ6_stringSize_0f7a4_23 rfl rfl ?_
  refine x_icmp_le (tgt := 31) C dJ6_stringSize_0f7a4_24 (by decide) (fun hb => ?_) (fun hb => ?_)
  rotate_left
  · have hw3 : w < 1000 := Nat.lt_of_not_le (fun g => hb ((sb_nle (a := w) (b := 1000) hw (by decide)).mpr g))
    refine x_iload_n C dJ6_stringSize_0f7a4_27 rfl rfl ?_
    refine x_iload_n C dJ6_stringSize_0f7a4_28 rfl rfl ?_
    refine x_iadd C dJ6_stringSize_0f7a4_29 ?_
    have hd : sb_dg w = 3 := by unfold sb_dg; (repeat' split) <;> omega
    refine x_topi (y := (nI (sb_dg w))) (by rw [hd]; decide) ?_
    exact x_iret C (⟨rfl, rfl, rfl⟩) (Nat.le_of_ble_eq_true rfl) (Nat.le_of_ble_eq_true rfl) dJ6_stringSize_0f7a4_30
  have hw3 : 1000 ≤ w := (sb_nle (a := w) (b := 1000) hw (by decide)).mp (show -nI w ≤ -nI 1000 from hb)
  clear hb
  refine x_bipush (v := 10) C dJ6_stringSize_0f7a4_31 (by decide) ?_
  refine x_iload_n C dJ6_stringSize_0f7a4_33 rfl rfl ?_
  refine x_imul C dJ6_stringSize_0f7a4_34 ?_
  refine x_topi (y := (-10000)) (by decide) ?_
  refine x_istore_n (lv' := [(2, .int (-10000)), (3, .int 3), (0, .int (-nI w)), (1, .int 0)]) C dJ6_stringSize_0f7a4_35 rfl (by decide) rfl ?_
  refine x_iinc (v := 4) (lv' := [(3, .int 4), (2, .int (-10000)), (0, .int (-nI w)), (1, .int 0)]) C dJ6_stringSize_0f7a4_36 (k0 := 1) rfl (by decide) (by decide) rfl ?_
  refine x_goto (tgt := 16) C dJ6_stringSize_0f7a4_39 (by decide) ?_
  refine x_iload_n C dJ6_stringSize_0f7a4_16 rfl rfl ?_
  refine x_bipush (v := 10) C dJ6_stringSize_0f7a4_17 (by decide) ?_
  refine x_icmp_ge (tgt := 42) C dJ6_stringSize_0f7a4_19 (by decide) (fun h => absurd h (by decide)) (fun _ => ?_)
  refine x_iload_n C dJ6_stringSize_0f7a4_22 rfl rfl ?_
  refine x_iload_n C dJ6_stringSize_0f7a4_23 rfl rfl ?_
  refine x_icmp_le (tgt := 31) C dJ6_stringSize_0f7a4_24 (by decide) (fun hb => ?_) (fun hb => ?_)
  rotate_left
  · have hw4 : w < 10000 := Nat.lt_of_not_le (fun g => hb ((sb_nle (a := w) (b := 10000) hw (by decide)).mpr g))
    refine x_iload_n C dJ6_stringSize_0f7a4_27 rfl rfl ?_
    refine x_iload_n C dJ6_stringSize_0f7a4_28 rfl rfl ?_
    refine x_iadd C dJ6_stringSize_0f7a4_29 ?_
    have hd : sb_dg w = 4 := by unfold sb_dg; (repeat' split) <;> omega
    refine x_topi (y := (nI (sb_dg w))) (by rw [hd]; decide) ?_
    exact x_iret C (⟨rfl, rfl, rfl⟩) (Nat.le_of_ble_eq_true rfl) (Nat.le_of_ble_eq_true rfl) dJ6_stringSize_0f7a4_30
  have hw4 : 10000 ≤ w := (sb_nle (a := w) (b := 10000) hw (by decide)).mp (show -nI w ≤ -nI 10000 from hb)
  clear hb
  refine x_bipush (v := 10) C dJ6_stringSize_0f7a4_31 (by decide) ?_
  refine x_iload_n C dJ6_stringSize_0f7a4_33 rfl rfl ?_
  refine x_imul C dJ6_stringSize_0f7a4_34 ?_
  refine x_topi (y := (-100000)) (by decide) ?_
  refine x_istore_n (lv' := [(2, .int (-100000)), (3, .int 4), (0, .int (-nI w)), (1, .int 0)]) C dJ6_stringSize_0f7a4_35 rfl (by decide) rfl ?_
  refine x_iinc (v := 5) (lv' := [(3, .int 5), (2, .int (-100000)), (0, .int (-nI w)), (1, .int 0)]) C dJ6_stringSize_0f7a4_36 (k0 := 1) rfl (by decide) (by decide) rfl ?_
  refine x_goto (tgt := 16) C dJ6_stringSize_0f7a4_39 (by decide) ?_
  refine x_iload_n C dJ6_stringSize_0f7a4_16 rfl rfl ?_
  refine x_bipush (v := 10) C dJ6_stringSize_0f7a4_17 (by decide) ?_
  refine x_icmp_ge (tgt := 42) C dJ6_stringSize_0f7a4_19 (by decide) (fun h => absurd h (by decide)) (fun _ => ?_)
  refine x_iload_n C dJ6_stringSize_0f7a4_22 rfl rfl ?_
  refine x_iload_n C dJ6_stringSize_0f7a4_23 rfl rfl ?_
  refine x_icmp_le (tgt := 31) C dJ6_stringSize_0f7a4_24 (by decide) (fun hb => ?_) (fun hb => ?_)
  rotate_left
  · have hw5 : w < 100000 := Nat.lt_of_not_le (fun g => hb ((sb_nle (a := w) (b := 100000) hw (by decide)).mpr g))
    refine x_iload_n C dJ6_stringSize_0f7a4_27 rfl rfl ?_
    refine x_iload_n C dJ6_stringSize_0f7a4_28 rfl rfl ?_
    refine x_iadd C dJ6_stringSize_0f7a4_29 ?_
    have hd : sb_dg w = 5 := by unfold sb_dg; (repeat' split) <;> omega
    refine x_topi (y := (nI (sb_dg w))) (by rw [hd]; decide) ?_
    exact x_iret C (⟨rfl, rfl, rfl⟩) (Nat.le_of_ble_eq_true rfl) (Nat.le_of_ble_eq_true rfl) dJ6_stringSize_0f7a4_30
  have hw5 : 100000 ≤ w := (sb_nle (a := w) (b := 100000) hw (by decide)).mp (show -nI w ≤ -nI 100000 from hb)
  clear hb
  refine x_bipush (v := 10) C dJ6_stringSize_0f7a4_31 (by decide) ?_
  refine x_iload_n C dJ6_stringSize_0f7a4_33 rfl rfl ?_
  refine x_imul C dJ6_stringSize_0f7a4_34 ?_
  refine x_topi (y := (-1000000)) (by decide) ?_
  refine x_istore_n (lv' := [(2, .int (-1000000)), (3, .int 5), (0, .int (-nI w)), (1, .int 0)]) C dJ6_stringSize_0f7a4_35 rfl (by decide) rfl ?_
  refine x_iinc (v := 6) (lv' := [(3, .int 6), (2, .int (-1000000)), (0, .int (-nI w)), (1, .int 0)]) C dJ6_stringSize_0f7a4_36 (k0 := 1) rfl (by decide) (by decide) rfl ?_
  refine x_goto (tgt := 16) C dJ6_stringSize_0f7a4_39 (by decide) ?_
  refine x_iload_n C dJ6_stringSize_0f7a4_16 rfl rfl ?_
  refine x_bipush (v := 10) C dJ6_stringSize_0f7a4_17 (by decide) ?_
  refine x_icmp_ge (tgt := 42) C dJ6_stringSize_0f7a4_19 (by decide) (fun h => absurd h (by decide)) (fun _ => ?_)
  refine x_iload_n C dJ6_stringSize_0f7a4_22 rfl rfl ?_
  refine x_iload_n C dJ6_stringSize_0f7a4_23 rfl rfl ?_
  refine x_icmp_le (tgt := 31) C dJ6_stringSize_0f7a4_24 (by decide) (fun hb => ?_) (fun hb => ?_)
  rotate_left
  · have hw6 : w < 1000000 := Nat.lt_of_not_le (fun g => hb ((sb_nle (a := w) (b := 1000000) hw (by decide)).mpr g))
    refine x_iload_n C dJ6_stringSize_0f7a4_27 rfl rfl ?_
    refine x_iload_n C dJ6_stringSize_0f7a4_28 rfl rfl ?_
    refine x_iadd C dJ6_stringSize_0f7a4_29 ?_
    have hd : sb_dg w = 6 := by unfold sb_dg; (repeat' split) <;> omega
    refine x_topi (y := (nI (sb_dg w))) (by rw [hd]; decide) ?_
    exact x_iret C (⟨rfl, rfl, rfl⟩) (Nat.le_of_ble_eq_true rfl) (Nat.le_of_ble_eq_true rfl) dJ6_stringSize_0f7a4_30
  have hw6 : 1000000 ≤ w := (sb_nle (a := w) (b := 1000000) hw (by decide)).mp (show -nI w ≤ -nI 1000000 from hb)
  clear hb
  refine x_bipush (v := 10) C dJ6_stringSize_0f7a4_31 (by decide) ?_
  refine x_iload_n C dJ6_stringSize_0f7a4_33 rfl rfl ?_
  refine x_imul C dJ6_stringSize_0f7a4_34 ?_
  refine x_topi (y := (-10000000)) (by decide) ?_
  refine x_istore_n (lv' := [(2, .int (-10000000)), (3, .int 6), (0, .int (-nI w)), (1, .int 0)]) C dJ6_stringSize_0f7a4_35 rfl (by decide) rfl ?_
  refine x_iinc (v := 7) (lv' := [(3, .int 7), (2, .int (-10000000)), (0, .int (-nI w)), (1, .int 0)]) C dJ6_stringSize_0f7a4_36 (k0 := 1) rfl (by decide) (by decide) rfl ?_
  refine x_goto (tgt := 16) C dJ6_stringSize_0f7a4_39 (by decide) ?_
  refine x_iload_n C dJ6_stringSize_0f7a4_16 rfl rfl ?_
  refine x_bipush (v := 10) C dJ6_stringSize_0f7a4_17 (by decide) ?_
  refine x_icmp_ge (tgt := 42) C dJ6_stringSize_0f7a4_19 (by decide) (fun h => absurd h (by decide)) (fun _ => ?_)
  refine x_iload_n C dJ6_stringSize_0f7a4_22 rfl rfl ?_
  refine x_iload_n C dJ6_stringSize_0f7a4_23 rfl rfl ?_
  refine x_icmp_le (tgt := 31) C dJ6_stringSize_0f7a4_24 (by decide) (fun hb => ?_) (fun hb => ?_)
  rotate_left
  · have hw7 : w < 10000000 := Nat.lt_of_not_le (fun g => hb ((sb_nle (a := w) (b := 10000000) hw (by decide)).mpr g))
    refine x_iload_n C dJ6_stringSize_0f7a4_27 rfl rfl ?_
    refine x_iload_n C dJ6_stringSize_0f7a4_28 rfl rfl ?_
    refine x_iadd C dJ6_stringSize_0f7a4_29 ?_
    have hd : sb_dg w = 7 := by unfold sb_dg; (repeat' split) <;> omega
    refine x_topi (y := (nI (sb_dg w))) (by rw [hd]; decide) ?_
    exact x_iret C (⟨rfl, rfl, rfl⟩) (Nat.le_of_ble_eq_true rfl) (Nat.le_of_ble_eq_true rfl) dJ6_stringSize_0f7a4_30
  have hw7 : 10000000 ≤ w := (sb_nle (a := w) (b := 10000000) hw (by decide)).mp (show -nI w ≤ -nI 10000000 from hb)
  clear hb
  refine x_bipush (v := 10) C dJ6_stringSize_0f7a4_31 (by decide) ?_
  refine x_iload_n C dJ6_stringSize_0f7a4_33 rfl rfl ?_
  refine x_imul C dJ6_stringSize_0f7a4_34 ?_
  refine x_topi (y := (-100000000)) (by decide) ?_
  refine x_istore_n (lv' := [(2, .int (-100000000)), (3, .int 7), (0, .int (-nI w)), (1, .int 0)]) C dJ6_stringSize_0f7a4_35 rfl (by decide) rfl ?_
  refine x_iinc (v := 8) (lv' := [(3, .int 8), (2, .int (-100000000)), (0, .int (-nI w)), (1, .int 0)]) C dJ6_stringSize_0f7a4_36 (k0 := 1) rfl (by decide) (by decide) rfl ?_
  refine x_goto (tgt := 16) C dJ6_stringSize_0f7a4_39 (by decide) ?_
  refine x_iload_n C dJ6_stringSize_0f7a4_16 rfl rfl ?_
  refine x_bipush (v := 10) C dJ6_stringSize_0f7a4_17 (by decide) ?_
  refine x_icmp_ge (tgt := 42) C dJ6_stringSize_0f7a4_19 (by decide) (fun h => absurd h (by decide)) (fun _ => ?_)
  refine x_iload_n C dJ6_stringSize_0f7a4_22 rfl rfl ?_
  refine x_iload_n C dJ6_stringSize_0f7a4_23 rfl rfl ?_
  refine x_icmp_le (tgt := 31) C dJ6_stringSize_0f7a4_24 (by decide) (fun hb => ?_) (fun hb => ?_)
  rotate_left
  · have hw8 : w < 100000000 := Nat.lt_of_not_le (fun g => hb ((sb_nle (a := w) (b := 100000000) hw (by decide)).mpr g))
    refine x_iload_n C dJ6_stringSize_0f7a4_27 rfl rfl ?_
    refine x_iload_n C dJ6_stringSize_0f7a4_28 rfl rfl ?_
    refine x_iadd C dJ6_stringSize_0f7a4_29 ?_
    have hd : sb_dg w = 8 := by unfold sb_dg; (repeat' split) <;> omega
    refine x_topi (y := (nI (sb_dg w))) (by rw [hd]; decide) ?_
    exact x_iret C (⟨rfl, rfl, rfl⟩) (Nat.le_of_ble_eq_true rfl) (Nat.le_of_ble_eq_true rfl) dJ6_stringSize_0f7a4_30
  have hw8 : 100000000 ≤ w := (sb_nle (a := w) (b := 100000000) hw (by decide)).mp (show -nI w ≤ -nI 100000000 from hb)
  clear hb
  refine x_bipush (v := 10) C dJ6_stringSize_0f7a4_31 (by decide) ?_
  refine x_iload_n C dJ6_stringSize_0f7a4_33 rfl rfl ?_
  refine x_imul C dJ6_stringSize_0f7a4_34 ?_
  refine x_topi (y := (-1000000000)) (by decide) ?_
  refine x_istore_n (lv' := [(2, .int (-1000000000)), (3, .int 8), (0, .int (-nI w)), (1, .int 0)]) C dJ6_stringSize_0f7a4_35 rfl (by decide) rfl ?_
  refine x_iinc (v := 9) (lv' := [(3, .int 9), (2, .int (-1000000000)), (0, .int (-nI w)), (1, .int 0)]) C dJ6_stringSize_0f7a4_36 (k0 := 1) rfl (by decide) (by decide) rfl ?_
  refine x_goto (tgt := 16) C dJ6_stringSize_0f7a4_39 (by decide) ?_
  refine x_iload_n C dJ6_stringSize_0f7a4_16 rfl rfl ?_
  refine x_bipush (v := 10) C dJ6_stringSize_0f7a4_17 (by decide) ?_
  refine x_icmp_ge (tgt := 42) C dJ6_stringSize_0f7a4_19 (by decide) (fun h => absurd h (by decide)) (fun _ => ?_)
  refine x_iload_n C dJ6_stringSize_0f7a4_22 rfl rfl ?_
  refine x_iload_n C dJ6_stringSize_0f7a4_23 rfl rfl ?_
  refine x_icmp_le (tgt := 31) C dJ6_stringSize_0f7a4_24 (by decide) (fun hb => ?_) (fun hb => ?_)
  rotate_left
  · have hw9 : w < 1000000000 := Nat.lt_of_not_le (fun g => hb ((sb_nle (a := w) (b := 1000000000) hw (by decide)).mpr g))
    refine x_iload_n C dJ6_stringSize_0f7a4_27 rfl rfl ?_
    refine x_iload_n C dJ6_stringSize_0f7a4_28 rfl rfl ?_
    refine x_iadd C dJ6_stringSize_0f7a4_29 ?_
    have hd : sb_dg w = 9 := by unfold sb_dg; (repeat' split) <;> omega
    refine x_topi (y := (nI (sb_dg w))) (by rw [hd]; decide) ?_
    exact x_iret C (⟨rfl, rfl, rfl⟩) (Nat.le_of_ble_eq_true rfl) (Nat.le_of_ble_eq_true rfl) dJ6_stringSize_0f7a4_30
  have hw9 : 1000000000 ≤ w := (sb_nle (a := w) (b := 1000000000) hw (by decide)).mp (show -nI w ≤ -nI 1000000000 from hb)
  clear hb
  refine x_bipush (v := 10) C dJ6_stringSize_0f7a4_31 (by decide) ?_
  refine x_iload_n C dJ6_stringSize_0f7a4_33 rfl rfl ?_
  refine x_imul C dJ6_stringSize_0f7a4_34 ?_
  refine x_topi (y := (-1410065408)) (by decide) ?_
  refine x_istore_n (lv' := [(2, .int (-1410065408)), (3, .int 9), (0, .int (-nI w)), (1, .int 0)]) C dJ6_stringSize_0f7a4_35 rfl (by decide) rfl ?_
  refine x_iinc (v := 10) (lv' := [(3, .int 10), (2, .int (-1410065408)), (0, .int (-nI w)), (1, .int 0)]) C dJ6_stringSize_0f7a4_36 (k0 := 1) rfl (by decide) (by decide) rfl ?_
  refine x_goto (tgt := 16) C dJ6_stringSize_0f7a4_39 (by decide) ?_
  refine x_iload_n C dJ6_stringSize_0f7a4_16 rfl rfl ?_
  refine x_bipush (v := 10) C dJ6_stringSize_0f7a4_17 (by decide) ?_
  refine x_icmp_ge (tgt := 42) C dJ6_stringSize_0f7a4_19 (by decide) (fun _ => ?_) (fun h => absurd (by decide) h)
  refine x_bipush (v := 10) C dJ6_stringSize_0f7a4_42 (by decide) ?_
  refine x_iload_n C dJ6_stringSize_0f7a4_44 rfl rfl ?_
  refine x_iadd C dJ6_stringSize_0f7a4_45 ?_
  have hd : sb_dg w = 10 := by unfold sb_dg; (repeat' split) <;> omega
  refine x_topi (y := (nI (sb_dg w))) (by rw [hd]; decide) ?_
  exact x_iret C (⟨rfl, rfl, rfl⟩) (Nat.le_of_ble_eq_true rfl) (Nat.le_of_ble_eq_true rfl) dJ6_stringSize_0f7a4_46
