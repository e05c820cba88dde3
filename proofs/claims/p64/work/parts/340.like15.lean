set_option maxHeartbeats 4000000 in
set_option maxRecDepth 100000 in
theorem qL_isLike_74 {p : Program} {l : Launch} {e : Env} {s : State} {m : MethodId} {args : Array Value} {below : List Frame} {meth : Method} {c : Code} {ρ : bsR} {sc L : Nat} {xs : Nat → Int32} {cA : Nat → ClassId} {dC : Nat → ClassId} {dI : Nat → Nat → Nat} {A : Nat → Prop} {Ts : List Cond} {σ : xA2} {F : va_W} {z : (Int32 × bsX × pY)} (C : xCx p m c cL_isLike 7 s args Ts RL ρ sc L xs cA dC dI A meth (some .boolean)) (hst : l.stackTraces = false)  : ∀ (n : Nat), ∀ (f2 : (Nat → Int32)) (x3 : Int32) (X : bsX) (Z : pY) (θ : xA2) (α2 : Nat) (cl sl : Nat), cl + (n * 2 + (567)) ≤ 610 → sl + (n * 12 + (3416)) ≤ 3677 → hL_isLike_74  n f2 x3 X Z = some z → xV p l e rmL_isLike s m args below meth c cl sl (MQ below (xQi ρ cA dC dI A (fun r X' R' => r = z.1 ∧ X' = z.2.1 ∧ ∃ θ' : xA2, R' = lwWs σ θ' cA z.2.2 ++ F)) args s rmL_isLike.cells rmL_isLike.slots A) ρ cA dC dI A (lwWs σ θ cA Z ++ (F ++ [(α2, .inl (cA 0, 9, .inl f2))])) 7 74 [(0, .ref (ρ 13 0 0)), (1, .ref (σ 0 0)), (2, .ref α2), (3, .int x3)] [] X := by
  intro n
  induction n with
  | zero => intro f2 x3 X Z θ α2 cl sl hcl hsl hf; exact (nomatch hf)
  | succ n ih =>
    intro f2 x3 X Z θ α2 cl sl hcl hsl hf
    rw [hL_isLike_74] at hf
    refine x_iload_n C dL_isLike_74 rfl rfl ?_
    refine x_bipush (v := 20) C dL_isLike_75 (by decide) ?_
    refine x_icmp_ge (tgt := 128) C dL_isLike_77 (by decide) (fun h29 => ?_) (fun h29 => ?_)
    · replace hf := bs_pos h29 hf
      refine x_iconst (v := 0) C dL_isLike_128 (by decide) ?_
      refine x_istore_n (lv' := [(3, .int (0 : Int32)), (0, .ref (ρ 13 0 0)), (1, .ref (σ 0 0)), (2, .ref α2)]) C dL_isLike_129 rfl (by decide) rfl ?_
      refine x_sub [1, 2, 0] rfl ?_
      refine xu_drop (T' := []) (List.Sublist.cons _ List.Sublist.slnil) ?_
      exact qL_isLike_130  C hst  8 _ _ _ _  _ _  (by show _ + (392 + _) ≤ _; omega) (by show _ + (2376 + _) ≤ _; omega) hf
    · replace hf := bs_neg h29 hf
      refine x_aload_n C dL_isLike_80 rfl rfl ?_
      refine x_iload_n C dL_isLike_81 rfl rfl ?_
      obtain ⟨r19, hc20, hf⟩ := bs_bind hf
      obtain ⟨h021, hf⟩ := bs_if hf
      refine x_callT (y := yX8_count) (As := [.int x3]) (rest := []) C (cX8_count_ok hst hc20) h021 ml_L_33 wyX8_count bsm_X8 bsc_X8 rfl dpX8_count ⟨Nat.le_of_ble_eq_true rfl, Nat.le_of_ble_eq_true rfl⟩ ⟨by show (cl) + 2 ≤ 610; omega, by show (sl) + 12 ≤ 3677; omega⟩ rfl (Nat.le_of_ble_eq_true rfl) dL_isLike_82 ?_
      refine x_widen (k := (cl + 2)) (n := (sl + 12)) (by show (cl) + 2 ≤ _; omega) (by show (sl) + 12 ≤ _; omega) ?_
      refine x_iload_n C dL_isLike_85 rfl rfl ?_
      refine x_bipush (v := 9) C dL_isLike_86 (by decide) ?_
      refine x_icmp_ge (tgt := 97) C dL_isLike_88 (by decide) (fun h28 => ?_) (fun h28 => ?_)
      · replace hf := bs_pos h28 hf
        refine x_iload_n C dL_isLike_97 rfl rfl ?_
        refine x_bipush (v := 12) C dL_isLike_98 (by decide) ?_
        refine x_icmp_ge (tgt := 111) C dL_isLike_100 (by decide) (fun h26 => ?_) (fun h26 => ?_)
        · replace hf := bs_pos h26 hf
          refine x_aload_n C dL_isLike_111 rfl rfl ?_
          refine xg_L_160 C dL_isLike_112 ?_
          refine x_iload_n C dL_isLike_115 rfl rfl ?_
          obtain ⟨hg22, hf⟩ := bs_if hf
          refine xl_cnt C hg22 dL_isLike_116 ?_
          refine x_sub [0, 1, 2, 3] rfl ?_
          exact qL_isLike_117 (hL_isLike_74   n) C hst ih ⟨by omega, by omega⟩ _ _ _ _ _ _ _ _ _ _  (by omega) (by omega) hf
        · replace hf := bs_neg h26 hf
          refine x_aload_n C dL_isLike_103 rfl rfl ?_
          refine x_iload_n C dL_isLike_104 rfl rfl ?_
          obtain ⟨r23, hc24, hf⟩ := bs_bind hf
          refine x_callSi (y := yL_count) (As := [.ref (σ 0 0), .int x3]) (rest := [.int r19.2.1]) C (cL_count_ok  hc24) ml_L_157 wzL_count dpL_count ⟨Nat.le_of_ble_eq_true rfl, Nat.le_of_ble_eq_true rfl⟩ ⟨by show (cl + 2) + 0 ≤ 610; omega, by show (sl + 12) + (0) ≤ 3677; omega⟩ rfl (Nat.le_of_ble_eq_true rfl) dL_isLike_105 (fun r' X' R' hp => ?_)
          obtain ⟨rfl, rfl, θ, rfl⟩ := hp
          refine x_widen (k := (cl + 2)) (n := (sl + 12)) (by show (cl + 2) + 0 ≤ _; omega) (by show (sl + 12) + (0) ≤ _; omega) ?_
          refine x_goto (tgt := 117) C dL_isLike_108 (by decide) ?_
          refine x_sub [0, 1, 2, 3] rfl ?_
          exact qL_isLike_117 (hL_isLike_74   n) C hst ih ⟨by omega, by omega⟩ _ _ _ _ _ _ _ _ _ _  (by omega) (by omega) hf
      · replace hf := bs_neg h28 hf
        refine x_aload_n C dL_isLike_91 rfl rfl ?_
        refine x_iload_n C dL_isLike_92 rfl rfl ?_
        obtain ⟨hg27, hf⟩ := bs_if hf
        refine xu_ld C 0 rfl hg27 dL_isLike_93 ?_
        refine x_goto (tgt := 117) C dL_isLike_94 (by decide) ?_
        refine x_sub [0, 1, 2, 3] rfl ?_
        exact qL_isLike_117 (hL_isLike_74   n) C hst ih ⟨by omega, by omega⟩ _ _ _ _ _ _ _ _ _ _  (by omega) (by omega) hf
