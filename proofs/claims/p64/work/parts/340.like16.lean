set_option maxHeartbeats 4000000 in
set_option maxRecDepth 100000 in
theorem cL_isLike_ok {l : Launch} {ρ : bsR} {sc L : Nat} {xs : Nat → Int32} {cA : Nat → ClassId} {dC : Nat → ClassId} {dI : Nat → Nat → Nat} {σ θ : xA2} {F : va_W} (hst : l.stackTraces = false) {X : bsX} {Z : pY} {z : (Int32 × bsX × pY)} (hf : hL_isLike  X Z = some z) : xMi l yL_isLike cL_isLike 7 (some .boolean) rmL_isLike ρ sc L xs cA dC dI [.ref (ρ 13 0 0), .ref (σ 0 0)] X (lwWs σ θ cA Z ++ F) (fun r X' R' => r = z.1 ∧ X' = z.2.1 ∧ ∃ θ' : xA2, R' = lwWs σ θ' cA z.2.2 ++ F) := by
  refine xMi_of (by decide) (Nat.le_of_ble_eq_true rfl) (fun p e s m args below meth c C => ?_)
  have C : xCx p m c cL_isLike 7 s args (Cond.code yL_isLike cL_isLike 7 (some .boolean) :: bsG) RL ρ sc L xs cA dC dI (bsA ρ cA (lwWs σ θ cA Z ++ F) s.heap.size) meth (some .boolean) := C
  rw [hL_isLike] at hf
  generalize (bsA ρ cA (lwWs σ θ cA Z ++ F) s.heap.size) = A at C ⊢
  refine x_sub [0, 1] rfl ?_
  refine xu_none ?_
  refine x_bipush (v := 9) C dL_isLike_0 (by decide) ?_
  refine xu_newi (c1 := (1)) (s1 := (9)) (N := 9) C (by decide) (by decide) (by decide) ⟨by show _ ≤ 610; omega, by show _ ≤ 3677; omega⟩ (by omega) (by omega) dL_isLike_2 (fun α82 => ?_)
  show xV p l e rmL_isLike s m args below meth c (1) (9) (MQ below (xQi ρ cA dC dI A (fun r X' R' => r = z.1 ∧ X' = z.2.1 ∧ ∃ θ' : xA2, R' = lwWs σ θ' cA z.2.2 ++ F)) args s rmL_isLike.cells rmL_isLike.slots A) ρ cA dC dI A (lwWs σ θ cA Z ++ (F ++ [(α82, .inl (cA 0, 9, .inl (fun _ => (0 : Int32))))])) 7 4 [(0, .ref (ρ 13 0 0)), (1, .ref (σ 0 0))] [.ref α82] X
  refine x_dup C dL_isLike_4 rfl ?_
  refine x_iconst (v := 0) C dL_isLike_5 (by decide) ?_
  refine x_aload_n C dL_isLike_6 rfl rfl ?_
  refine xg_L_114 C dL_isLike_7 ?_
  refine xn_plc C dL_isLike_10 ?_
  refine xu_st (T' := [(α82, .inl (cA 0, 9, .inl (upd (fun _ => (0 : Int32)) 0 (nI (ln Z)))))]) C 0 rfl (by decide) rfl dL_isLike_11 ?_
  refine x_dup C dL_isLike_12 rfl ?_
  refine x_iconst (v := 1) C dL_isLike_13 (by decide) ?_
  refine x_aload_n C dL_isLike_14 rfl rfl ?_
  refine xg_L_133 C dL_isLike_15 ?_
  refine xu_st (T' := [(α82, .inl (cA 0, 9, .inl (upd (upd (fun _ => (0 : Int32)) 0 (nI (ln Z))) 1 (Z 0 0 9))))]) C 0 rfl (by decide) rfl dL_isLike_18 ?_
  refine x_dup C dL_isLike_19 rfl ?_
  refine x_iconst (v := 2) C dL_isLike_20 (by decide) ?_
  refine x_aload_n C dL_isLike_21 rfl rfl ?_
  refine xg_L_136 C dL_isLike_22 ?_
  refine xu_st (T' := [(α82, .inl (cA 0, 9, .inl (upd (upd (upd (fun _ => (0 : Int32)) 0 (nI (ln Z))) 1 (Z 0 0 9)) 2 (Z 0 0 5))))]) C 0 rfl (by decide) rfl dL_isLike_25 ?_
  refine x_dup C dL_isLike_26 rfl ?_
  refine x_iconst (v := 3) C dL_isLike_27 (by decide) ?_
  refine x_aload_n C dL_isLike_28 rfl rfl ?_
  refine xg_L_139 C dL_isLike_29 ?_
  refine xu_st (T' := [(α82, .inl (cA 0, 9, .inl (upd (upd (upd (upd (fun _ => (0 : Int32)) 0 (nI (ln Z))) 1 (Z 0 0 9)) 2 (Z 0 0 5)) 3 (Z 0 0 6))))]) C 0 rfl (by decide) rfl dL_isLike_32 ?_
  refine x_dup C dL_isLike_33 rfl ?_
  refine x_iconst (v := 4) C dL_isLike_34 (by decide) ?_
  refine x_aload_n C dL_isLike_35 rfl rfl ?_
  refine xg_L_142 C dL_isLike_36 ?_
  refine xu_st (T' := [(α82, .inl (cA 0, 9, .inl (upd (upd (upd (upd (upd (fun _ => (0 : Int32)) 0 (nI (ln Z))) 1 (Z 0 0 9)) 2 (Z 0 0 5)) 3 (Z 0 0 6)) 4 (Z 0 0 7))))]) C 0 rfl (by decide) rfl dL_isLike_39 ?_
  refine x_dup C dL_isLike_40 rfl ?_
  refine x_iconst (v := 5) C dL_isLike_41 (by decide) ?_
  refine x_aload_n C dL_isLike_42 rfl rfl ?_
  refine xg_L_145 C dL_isLike_43 ?_
  refine xu_st (T' := [(α82, .inl (cA 0, 9, .inl (upd (upd (upd (upd (upd (upd (fun _ => (0 : Int32)) 0 (nI (ln Z))) 1 (Z 0 0 9)) 2 (Z 0 0 5)) 3 (Z 0 0 6)) 4 (Z 0 0 7)) 5 (Z 0 0 8))))]) C 0 rfl (by decide) rfl dL_isLike_46 ?_
  refine x_dup C dL_isLike_47 rfl ?_
  refine x_bipush (v := 6) C dL_isLike_48 (by decide) ?_
  refine x_aload_n C dL_isLike_50 rfl rfl ?_
  refine xg_L_148 C dL_isLike_51 ?_
  refine xu_st (T' := [(α82, .inl (cA 0, 9, .inl (upd (upd (upd (upd (upd (upd (upd (fun _ => (0 : Int32)) 0 (nI (ln Z))) 1 (Z 0 0 9)) 2 (Z 0 0 5)) 3 (Z 0 0 6)) 4 (Z 0 0 7)) 5 (Z 0 0 8)) 6 (Z 0 0 10))))]) C 0 rfl (by decide) rfl dL_isLike_54 ?_
  refine x_dup C dL_isLike_55 rfl ?_
  refine x_bipush (v := 7) C dL_isLike_56 (by decide) ?_
  refine x_aload_n C dL_isLike_58 rfl rfl ?_
  refine xg_L_151 C dL_isLike_59 ?_
  refine xu_st (T' := [(α82, .inl (cA 0, 9, .inl (upd (upd (upd (upd (upd (upd (upd (upd (fun _ => (0 : Int32)) 0 (nI (ln Z))) 1 (Z 0 0 9)) 2 (Z 0 0 5)) 3 (Z 0 0 6)) 4 (Z 0 0 7)) 5 (Z 0 0 8)) 6 (Z 0 0 10)) 7 (Z 0 0 11))))]) C 0 rfl (by decide) rfl dL_isLike_62 ?_
  refine x_dup C dL_isLike_63 rfl ?_
  refine x_bipush (v := 8) C dL_isLike_64 (by decide) ?_
  refine x_aload_n C dL_isLike_66 rfl rfl ?_
  refine xg_L_154 C dL_isLike_67 ?_
  refine xu_st (T' := [(α82, .inl (cA 0, 9, .inl (upd (upd (upd (upd (upd (upd (upd (upd (upd (fun _ => (0 : Int32)) 0 (nI (ln Z))) 1 (Z 0 0 9)) 2 (Z 0 0 5)) 3 (Z 0 0 6)) 4 (Z 0 0 7)) 5 (Z 0 0 8)) 6 (Z 0 0 10)) 7 (Z 0 0 11)) 8 (Z 0 0 12))))]) C 0 rfl (by decide) rfl dL_isLike_70 ?_
  refine x_astore_n (lv' := [(2, .ref α82), (0, .ref (ρ 13 0 0)), (1, .ref (σ 0 0))]) C dL_isLike_71 rfl (by decide) rfl ?_
  refine x_iconst (v := 0) C dL_isLike_72 (by decide) ?_
  refine x_istore_n (lv' := [(3, .int (0 : Int32)), (2, .ref α82), (0, .ref (ρ 13 0 0)), (1, .ref (σ 0 0))]) C dL_isLike_73 rfl (by decide) rfl ?_
  refine x_sub [2, 3, 1, 0] rfl ?_
  exact qL_isLike_74  C hst  21 _ _ _ _ _ _ _ _  (by show _ + (42 + _) ≤ _; omega) (by show _ + (252 + _) ≤ _; omega) hf
