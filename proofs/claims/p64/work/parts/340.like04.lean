set_option maxHeartbeats 4000000 in
set_option maxRecDepth 100000 in
theorem qL_isLike_255 {p : Program} {l : Launch} {e : Env} {s : State} {m : MethodId} {args : Array Value} {below : List Frame} {meth : Method} {c : Code} {ρ : bsR} {sc L : Nat} {xs : Nat → Int32} {cA : Nat → ClassId} {dC : Nat → ClassId} {dI : Nat → Nat → Nat} {A : Nat → Prop} {Ts : List Cond} {σ : xA2} {F : va_W} (k130 : Int32 → bsX → pY → Option (Int32 × bsX × pY)) {z : (Int32 × bsX × pY)} (C : xCx p m c cL_isLike 7 s args Ts RL ρ sc L xs cA dC dI A meth (some .boolean)) (hst : l.stackTraces = false) {NC130 NS130 : Nat} (hk130 : ∀ (x3 : Int32) (X : bsX) (Z : pY) (θ : xA2) (cl sl : Nat), cl + NC130 ≤ 610 → sl + NS130 ≤ 3677 → k130 x3 X Z = some z → xV p l e rmL_isLike s m args below meth c cl sl (MQ below (xQi ρ cA dC dI A (fun r X' R' => r = z.1 ∧ X' = z.2.1 ∧ ∃ θ' : xA2, R' = lwWs σ θ' cA z.2.2 ++ F)) args s rmL_isLike.cells rmL_isLike.slots A) ρ cA dC dI A (lwWs σ θ cA Z ++ (F ++ [])) 7 130 [(0, .ref (ρ 13 0 0)), (1, .ref (σ 0 0)), (3, .int x3)] [] X) (hn130 : 175 ≤ NC130 ∧ 1040 ≤ NS130)  : ∀ (n : Nat), ∀ (x3 : Int32) (q4 : Nat) (f5 : (Nat → Int32)) (x6 : Int32) (X : bsX) (Z : pY) (θ : xA2) (α5 : Nat) (cl sl : Nat), q4 < ln Z → cl + (n * 3 + (18 + NC130)) ≤ 610 → sl + (n * 18 + (108 + NS130)) ≤ 3677 → hL_isLike_255 k130 n x3 q4 f5 x6 X Z = some z → xV p l e rmL_isLike s m args below meth c cl sl (MQ below (xQi ρ cA dC dI A (fun r X' R' => r = z.1 ∧ X' = z.2.1 ∧ ∃ θ' : xA2, R' = lwWs σ θ' cA z.2.2 ++ F)) args s rmL_isLike.cells rmL_isLike.slots A) ρ cA dC dI A (lwWs σ θ cA Z ++ (F ++ [(α5, .inl (cA 0, 9, .inl f5))])) 7 255 [(0, .ref (ρ 13 0 0)), (1, .ref (σ 0 0)), (3, .int x3), (4, .ref (σ 5 q4)), (5, .ref α5), (6, .int x6)] [] X := by
  intro n
  induction n with
  | zero => intro x3 q4 f5 x6 X Z θ α5 cl sl hq4 hcl hsl hf; exact (nomatch hf)
  | succ n ih =>
    intro x3 q4 f5 x6 X Z θ α5 cl sl hq4 hcl hsl hf
    rw [hL_isLike_255] at hf
    refine x_iload C dL_isLike_255 rfl ?_
    refine x_bipush (v := 9) C dL_isLike_257 (by decide) ?_
    refine x_icmp_ge (tgt := 285) C dL_isLike_259 (by decide) (fun h81 => ?_) (fun h81 => ?_)
    · replace hf := bs_pos h81 hf
      refine x_iconst (v := 0) C dL_isLike_285 (by decide) ?_
      refine x_istore (lv' := [(6, .int (0 : Int32)), (0, .ref (ρ 13 0 0)), (1, .ref (σ 0 0)), (3, .int x3), (4, .ref (σ 5 q4)), (5, .ref α5)]) C dL_isLike_286 (by decide) rfl ?_
      refine x_sub [1, 2, 3, 4, 0] rfl ?_
      refine xu_drop (T' := []) (List.Sublist.cons _ List.Sublist.slnil) ?_
      exact qL_isLike_288 k130 C hst hk130 hn130 6 _ _ _ _ _ _  _ _ hq4 (by show _ + (18 + _) ≤ _; omega) (by show _ + (108 + _) ≤ _; omega) hf
    · replace hf := bs_neg h81 hf
      refine x_aload_n C dL_isLike_262 rfl rfl ?_
      refine x_iload_n C dL_isLike_263 rfl rfl ?_
      refine x_iload C dL_isLike_264 rfl ?_
      obtain ⟨r76, hc77, hf⟩ := bs_bind hf
      obtain ⟨h078, hf⟩ := bs_if hf
      refine x_callT (y := yX8_slot) (As := [.int x3, .int x6]) (rest := []) C (cX8_slot_ok hst hc77) h078 ml_L_36 wyX8_slot bsm_X8 bsc_X8 rfl dpX8_slot ⟨Nat.le_of_ble_eq_true rfl, Nat.le_of_ble_eq_true rfl⟩ ⟨by show (cl) + 3 ≤ 610; omega, by show (sl) + 18 ≤ 3677; omega⟩ rfl (Nat.le_of_ble_eq_true rfl) dL_isLike_266 ?_
      refine x_widen (k := (cl + 3)) (n := (sl + 18)) (by show (cl) + 3 ≤ _; omega) (by show (sl) + 18 ≤ _; omega) ?_
      refine x_aload C dL_isLike_269 rfl ?_
      refine x_iload C dL_isLike_271 rfl ?_
      obtain ⟨hg79, hf⟩ := bs_if hf
      refine xu_ld C 0 rfl hg79 dL_isLike_273 ?_
      refine x_icmp_eq (tgt := 279) C dL_isLike_274 (by decide) (fun h80 => ?_) (fun h80 => ?_)
      · replace hf := bs_pos h80 hf
        refine x_iinc (k0 := 5) (v := (x6 + (1 : Int32))) (lv' := [(6, .int (x6 + (1 : Int32))), (0, .ref (ρ 13 0 0)), (1, .ref (σ 0 0)), (3, .int x3), (4, .ref (σ 5 q4)), (5, .ref α5)]) C dL_isLike_279 rfl rfl (by decide) rfl ?_
        refine x_goto (tgt := 255) C dL_isLike_282 (by decide) ?_
        refine x_sub [1, 2, 3, 4, 5, 0] rfl ?_
        exact ih _ _ _ _ _ _ _ _ _ _ hq4 (by omega) (by omega) hf
      · replace hf := bs_neg h80 hf
        refine x_iconst (v := 0) C dL_isLike_277 (by decide) ?_
        obtain rfl := Option.some.inj hf
        refine xu_dropall ?_
        exact x_xret C (bsZ01 (by decide)).1 ⟨rfl, rfl, _, rfl⟩ (by show _ ≤ 610; omega) (by show _ ≤ 3677; omega) dL_isLike_278
