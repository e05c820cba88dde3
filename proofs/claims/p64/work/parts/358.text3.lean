/-! BootSlotsLaw.isText of a String constant -/
theorem st_chr : ∀ u, u < 22 → ∀ i, i < stN u → bsChr u i = nI (stT u i) := by decide +kernel
set_option maxHeartbeats 4000000 in
set_option maxRecDepth 100000 in
theorem qL_isTextC_12 {p : Program} {l : Launch} {e : Env} {s : State} {m : MethodId} {args : Array Value} {below : List Frame} {meth : Method} {c : Code} {ρ : bsR} {sc L : Nat} {xs : Nat → Int32} {cA : Nat → ClassId} {dC : Nat → ClassId} {dI : Nat → Nat → Nat} {A : Nat → Prop} {Ts : List Cond} {Rz : va_W} {u : Nat} {a1 : Int32} {z : Int32 × bsX} {k : bsX → Option (Int32 × bsX)} (C : xCx p m c cL_isText 4 s args Ts RL ρ sc L xs cA dC dI A meth (some .boolean)) (hst : l.stackTraces = false) (ht : u < 22) (hk : ∀ (X : bsX) (cl sl : Nat), cl ≤ 512 → sl ≤ 3072 → k X = some z → xV p l e rmL_isText s m args below meth c cl sl (MQ below (xQi ρ cA dC dI A (fun r X' R' => r = z.1 ∧ X' = z.2 ∧ R' = Rz)) args s rmL_isText.cells rmL_isText.slots A) ρ cA dC dI A Rz 4 41 [(0, .ref (ρ 13 0 0)), (1, .int a1)] [] X) : ∀ (d i : Nat) (X : bsX) (cl sl : Nat), i + d = stN u → cl + d ≤ 512 → sl + 6 * d ≤ 3072 → hTx (stT u) k d i X = some z → xV p l e rmL_isText s m args below meth c cl sl (MQ below (xQi ρ cA dC dI A (fun r X' R' => r = z.1 ∧ X' = z.2 ∧ R' = Rz)) args s rmL_isText.cells rmL_isText.slots A) ρ cA dC dI A Rz 4 12 [(3, .int (nI i)), (0, .ref (ρ 13 0 0)), (1, .int a1), (2, .ref (ρ 16 0 u))] [] X := by
  intro d
  induction d with
  | zero =>
    intro i X cl sl hid hcl hsl hf
    have h40 := (st_ok u ht).1
    rw [hTx] at hf
    refine x_iload_n C dL_isText_12 rfl rfl ?_
    refine x_aload_n C dL_isText_13 rfl rfl ?_
    refine x_callTi (y := yJ0_length_8abf5) (As := []) (rest := [.int (nI i)]) C ht rfl (cJ0_length_8abf5_ok ht) (bsG_in 789 (by decide +kernel) rfl) wyJ0_length_8abf5 dpJ0_length_8abf5 ⟨Nat.le_of_ble_eq_true rfl, Nat.le_of_ble_eq_true rfl⟩ ⟨rfl, rfl⟩ ⟨by show cl ≤ 530; omega, by show sl ≤ 3200; omega⟩ rfl (Nat.le_of_ble_eq_true rfl) dL_isText_14 ?_
    refine x_topi (y := (nI (stN u))) (st_len u) ?_
    refine x_icmp_ge (tgt := 41) C dL_isText_17 (by decide) (fun _ => ?_) (fun h => absurd (nI_le (by omega) (by omega)) h)
    refine x_sub [1, 2] rfl ?_
    exact hk X _ _ (by show cl ≤ 512; omega) (by show sl ≤ 3072; omega) hf
  | succ d ih =>
    intro i X cl sl hid hcl hsl hf
    have h40 := (st_ok u ht).1
    rw [hTx] at hf
    obtain ⟨r1, hc1, hf⟩ := bs_bind hf
    obtain ⟨h1, hf⟩ := bs_if hf
    refine x_iload_n C dL_isText_12 rfl rfl ?_
    refine x_aload_n C dL_isText_13 rfl rfl ?_
    refine x_callTi (y := yJ0_length_8abf5) (As := []) (rest := [.int (nI i)]) C ht rfl (cJ0_length_8abf5_ok ht) (bsG_in 789 (by decide +kernel) rfl) wyJ0_length_8abf5 dpJ0_length_8abf5 ⟨Nat.le_of_ble_eq_true rfl, Nat.le_of_ble_eq_true rfl⟩ ⟨rfl, rfl⟩ ⟨by show cl ≤ 530; omega, by show sl ≤ 3200; omega⟩ rfl (Nat.le_of_ble_eq_true rfl) dL_isText_14 ?_
    refine x_topi (y := (nI (stN u))) (st_len u) ?_
    refine x_icmp_ge (tgt := 41) C dL_isText_17 (by decide) (fun h => absurd h (nI_ge (by omega) (by omega))) (fun _ => ?_)
    refine x_aload_n C dL_isText_20 rfl rfl ?_
    refine x_iload_n C dL_isText_21 rfl rfl ?_
    refine x_callT (y := yX8_textByte) (As := [.int (nI i)]) (rest := []) C (cX8_textByte_ok hst hc1) h1 (bsG_in 1229 (by decide +kernel) rfl) wyX8_textByte bsm_X8 bsc_X8 rfl dpX8_textByte ⟨Nat.le_of_ble_eq_true rfl, Nat.le_of_ble_eq_true rfl⟩ ⟨by show cl + 1 ≤ 530; omega, by show sl + 6 ≤ 3200; omega⟩ rfl (Nat.le_of_ble_eq_true rfl) dL_isText_22 ?_
    refine x_aload_n C dL_isText_25 rfl rfl ?_
    refine x_iload_n C dL_isText_26 rfl rfl ?_
    refine x_callTi (y := yJ0_charAt_5068e) (As := [.int (nI i)]) (rest := [.int r1.2.1]) C ht rfl (cJ0_charAt_5068e_ok ht (vp_in_iff.mp (vp_in_nI (N := stN u) (show i < stN u by omega) (by omega)))) (bsG_in 790 (by decide +kernel) rfl) wyJ0_charAt_5068e dpJ0_charAt_5068e ⟨Nat.le_of_ble_eq_true rfl, Nat.le_of_ble_eq_true rfl⟩ ⟨rfl, rfl⟩ ⟨by show cl + 1 ≤ 530; omega, by show sl + 6 ≤ 3200; omega⟩ rfl (Nat.le_of_ble_eq_true rfl) dL_isText_27 ?_
    refine x_topi (y := (nI (stT u i))) (by rw [show bsIx (nI i) = i from nI_clamp (by omega)]; exact st_chr u ht i (by omega)) ?_
    refine x_icmp_eq (tgt := 35) C dL_isText_30 (by decide) (fun h2 => ?_) (fun h2 => ?_)
    · rw [if_pos h2] at hf
      refine x_iinc (v := (nI (i + 1))) (lv' := [(3, .int (nI (i + 1))), (0, .ref (ρ 13 0 0)), (1, .int a1), (2, .ref (ρ 16 0 u))]) C dL_isText_35 (k0 := 0) rfl (nI_1 i) (by decide) rfl ?_
      refine x_goto (tgt := 12) C dL_isText_38 (by decide) ?_
      exact ih (i + 1) r1.2.2 _ _ (by omega) (by show cl + 1 + d ≤ 512; omega) (by show sl + 6 + 6 * d ≤ 3072; omega) hf
    · rw [if_neg h2] at hf
      obtain rfl := Option.some.inj hf
      refine x_iconst (v := 0) C dL_isText_33 (by decide) ?_
      exact x_xret C rfl ⟨rfl, rfl, rfl⟩ (by show cl + 1 ≤ 530; omega) (by show sl + 6 ≤ 3200; omega) dL_isText_34
set_option maxHeartbeats 4000000 in
set_option maxRecDepth 100000 in
theorem cL_isTextC_ok {l : Launch} {ρ : bsR} {sc L : Nat} {xs : Nat → Int32} {cA : Nat → ClassId} {dC : Nat → ClassId} {dI : Nat → Nat → Nat} {X : bsX} {Rz : va_W} {u : Nat} {a1 : Int32} {z : Int32 × bsX} (hst : l.stackTraces = false) (ht : u < 22) (hf : hL_isText (stT u) (stN u) a1 X = some z) : xMi l yL_isText cL_isText 4 (some .boolean) rmL_isText ρ sc L xs cA dC dI [.ref (ρ 13 0 0), .int a1, .ref (ρ 16 0 u)] X Rz (fun r X' R' => r = z.1 ∧ X' = z.2 ∧ R' = Rz) := by
  refine xMi_of (by decide +kernel) (Nat.le_of_ble_eq_true rfl) (fun p e s m args below meth c C => ?_)
  have C : xCx p m c cL_isText 4 s args (Cond.code yL_isText cL_isText 4 (some .boolean) :: bsG) RL ρ sc L xs cA dC dI (bsA ρ cA Rz s.heap.size) meth (some .boolean) := C
  have h40 := (st_ok u ht).1
  rw [hL_isText] at hf
  refine x_sub [0, 1, 2] rfl ?_
  refine x_iload_n C dL_isText_0 rfl rfl ?_
  refine x_aload_n C dL_isText_1 rfl rfl ?_
  refine x_callTi (y := yJ0_length_8abf5) (As := []) (rest := [.int a1]) C ht rfl (cJ0_length_8abf5_ok ht) (bsG_in 789 (by decide +kernel) rfl) wyJ0_length_8abf5 dpJ0_length_8abf5 ⟨Nat.le_of_ble_eq_true rfl, Nat.le_of_ble_eq_true rfl⟩ ⟨rfl, rfl⟩ ⟨Nat.le_of_ble_eq_true rfl, Nat.le_of_ble_eq_true rfl⟩ rfl (Nat.le_of_ble_eq_true rfl) dL_isText_2 ?_
  refine x_topi (y := (nI (stN u))) (st_len u) ?_
  refine x_icmp_eq (tgt := 10) C dL_isText_5 (by decide) (fun h2 => ?_) (fun h2 => ?_)
  · rw [if_pos h2] at hf
    refine x_iconst (v := 0) C dL_isText_10 (by decide) ?_
    refine x_istore_n (lv' := [(3, .int 0), (0, .ref (ρ 13 0 0)), (1, .int a1), (2, .ref (ρ 16 0 u))]) C dL_isText_11 rfl (by decide) rfl ?_
    refine x_sub [0, 1, 2, 3] rfl ?_
    refine qL_isTextC_12 C hst ht (fun X cl sl hcl hsl hf => ?_) (stN u) 0 X _ _ (by omega) (by show 0 + stN u ≤ 512; omega) (by show 0 + 6 * stN u ≤ 3072; omega) hf
    obtain ⟨r1, hc1, hf⟩ := bs_bind hf
    obtain ⟨h1, hf⟩ := bs_if hf
    obtain rfl := Option.some.inj hf
    refine x_aload_n C dL_isText_41 rfl rfl ?_
    refine x_bipush (v := 11) C dL_isText_42 (by decide) ?_
    refine x_iconst (v := 1) C dL_isText_44 (by decide) ?_
    refine x_newi (N := 1) C (by decide) (by decide) (by decide) ⟨by show cl + 1 ≤ 530; omega, by show sl + 1 ≤ 3200; omega⟩ dL_isText_45 (fun u => ?_)
    refine x_eq (Rz' := Rz ++ ([] ++ [(u, .inl (cA 0, 1, .inl (fun _ => (0 : Int32))))])) rfl ?_
    refine x_dup C dL_isText_47 rfl ?_
    refine x_iconst (v := 0) C dL_isText_48 (by decide) ?_
    refine x_iload_n C dL_isText_49 rfl rfl ?_
    refine xu_st (T' := [(u, .inl (cA 0, 1, .inl (upd (fun _ => (0 : Int32)) 0 a1)))]) C 0 rfl (by decide) rfl dL_isText_50 ?_
    refine xu_thrown C 0 rfl (by decide) h1 (fun R2 q2 b h9 => cL_calls_11 hst h9 hc1 h1.1) ⟨Nat.le_of_ble_eq_true rfl, Nat.le_of_ble_eq_true rfl⟩ ⟨by show cl + 1 + 10 ≤ 530; omega, by show sl + 1 + 60 ≤ 3200; omega⟩ rfl (Nat.le_of_ble_eq_true rfl) dL_isText_51 ?_
    refine x_subl (Rz' := Rz) (List.sublist_append_left Rz _) ?_
    refine x_iconst (v := 2) C dL_isText_54 (by decide) ?_
    refine x_icmp_ne (tgt := 62) C dL_isText_55 (by decide) (fun h3 => ?_) (fun h3 => ?_)
    · rw [if_neg h3]
      refine x_iconst (v := 0) C dL_isText_62 (by decide) ?_
      exact x_xret C rfl ⟨rfl, rfl, rfl⟩ (by show cl + 1 + 10 ≤ 530; omega) (by show sl + 1 + 60 ≤ 3200; omega) dL_isText_63
    · rw [if_pos h3]
      refine x_iconst (v := 1) C dL_isText_58 (by decide) ?_
      refine x_goto (tgt := 63) C dL_isText_59 (by decide) ?_
      exact x_xret C rfl ⟨rfl, rfl, rfl⟩ (by show cl + 1 + 10 ≤ 530; omega) (by show sl + 1 + 60 ≤ 3200; omega) dL_isText_63
  · rw [if_neg h2] at hf
    obtain rfl := Option.some.inj hf
    refine x_iconst (v := 0) C dL_isText_8 (by decide) ?_
    exact x_xret C rfl ⟨rfl, rfl, rfl⟩ (Nat.le_of_ble_eq_true rfl) (Nat.le_of_ble_eq_true rfl) dL_isText_9
