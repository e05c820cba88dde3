set_option maxHeartbeats 4000000 in
set_option maxRecDepth 100000 in
theorem qL_isLike_372 {p : Program} {l : Launch} {e : Env} {s : State} {m : MethodId} {args : Array Value} {below : List Frame} {meth : Method} {c : Code} {ρ : bsR} {sc L : Nat} {xs : Nat → Int32} {cA : Nat → ClassId} {dC : Nat → ClassId} {dI : Nat → Nat → Nat} {A : Nat → Prop} {Ts : List Cond} {σ : xA2} {F : va_W} {z : (Int32 × bsX × pY)} (C : xCx p m c cL_isLike 7 s args Ts RL ρ sc L xs cA dC dI A meth (some .boolean)) (hst : l.stackTraces = false)  : ∀ (n : Nat), ∀ (f3 : (Nat → Int32)) (x4 : Int32) (X : bsX) (Z : pY) (θ : xA2) (α3 : Nat) (cl sl : Nat), cl + (n * 2 + (164)) ≤ 610 → sl + (n * 12 + (976)) ≤ 3677 → hL_isLike_372  n f3 x4 X Z = some z → xV p l e rmL_isLike s m args below meth c cl sl (MQ below (xQi ρ cA dC dI A (fun r X' R' => r = z.1 ∧ X' = z.2.1 ∧ ∃ θ' : xA2, R' = lwWs σ θ' cA z.2.2 ++ F)) args s rmL_isLike.cells rmL_isLike.slots A) ρ cA dC dI A (lwWs σ θ cA Z ++ (F ++ [(α3, .inl (cA 0, 4, .inl f3))])) 7 372 [(0, .ref (ρ 13 0 0)), (1, .ref (σ 0 0)), (3, .ref α3), (4, .int x4)] [] X := by
  intro n
  induction n with
  | zero => intro f3 x4 X Z θ α3 cl sl hcl hsl hf; exact (nomatch hf)
  | succ n ih =>
    intro f3 x4 X Z θ α3 cl sl hcl hsl hf
    rw [hL_isLike_372] at hf
    refine x_iload C dL_isLike_372 rfl ?_
    refine x_iconst (v := 4) C dL_isLike_374 (by decide) ?_
    refine x_icmp_ge (tgt := 410) C dL_isLike_375 (by decide) (fun h74 => ?_) (fun h74 => ?_)
    · replace hf := bs_pos h74 hf
      refine x_iconst (v := 0) C dL_isLike_410 (by decide) ?_
      refine x_istore (lv' := [(4, .int (0 : Int32)), (0, .ref (ρ 13 0 0)), (1, .ref (σ 0 0)), (3, .ref α3)]) C dL_isLike_411 (by decide) rfl ?_
      refine x_sub [1, 2, 0] rfl ?_
      refine xu_drop (T' := []) (List.Sublist.cons _ List.Sublist.slnil) ?_
      exact qL_isLike_413  C hst  14 _ _ _ _  _ _  (by show _ + (140 + _) ≤ _; omega) (by show _ + (840 + _) ≤ _; omega) hf
    · replace hf := bs_neg h74 hf
      refine x_aload_n C dL_isLike_378 rfl rfl ?_
      refine x_iload C dL_isLike_379 rfl ?_
      obtain ⟨r69, hc70, hf⟩ := bs_bind hf
      obtain ⟨h071, hf⟩ := bs_if hf
      refine x_callT (y := yX8_install) (As := [.int x4]) (rest := []) C (cX8_install_ok hst hc70) h071 ml_L_43 wyX8_install bsm_X8 bsc_X8 rfl dpX8_install ⟨Nat.le_of_ble_eq_true rfl, Nat.le_of_ble_eq_true rfl⟩ ⟨by show (cl) + 2 ≤ 610; omega, by show (sl) + 12 ≤ 3677; omega⟩ rfl (Nat.le_of_ble_eq_true rfl) dL_isLike_381 ?_
      refine x_widen (k := (cl + 2)) (n := (sl + 12)) (by show (cl) + 2 ≤ _; omega) (by show (sl) + 12 ≤ _; omega) ?_
      refine x_aload_n C dL_isLike_384 rfl rfl ?_
      refine xg_L_185 C dL_isLike_385 ?_
      refine x_if_ge (tgt := 395) C dL_isLike_388 (by decide) (fun h73 => ?_) (fun h73 => ?_)
      · replace hf := bs_pos h73 hf
        refine x_aload_n C dL_isLike_395 rfl rfl ?_
        refine x_iload C dL_isLike_396 rfl ?_
        obtain ⟨hg72, hf⟩ := bs_if hf
        refine xu_ld C 0 rfl hg72 dL_isLike_398 ?_
        refine x_sub [0, 1, 2, 3] rfl ?_
        exact qL_isLike_399 (hL_isLike_372   n) C hst ih ⟨by omega, by omega⟩ _ _ _ _ _ _ _ _ _ _  (by omega) (by omega) hf
      · replace hf := bs_neg h73 hf
        refine x_iconst (v := -1) C dL_isLike_391 (by decide) ?_
        refine x_goto (tgt := 399) C dL_isLike_392 (by decide) ?_
        refine x_sub [0, 1, 2, 3] rfl ?_
        exact qL_isLike_399 (hL_isLike_372   n) C hst ih ⟨by omega, by omega⟩ _ _ _ _ _ _ _ _ _ _  (by omega) (by omega) hf
