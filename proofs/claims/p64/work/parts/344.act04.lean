set_option maxHeartbeats 4000000 in
set_option maxRecDepth 100000 in
theorem qL_act_903 {p : Program} {l : Launch} {e : Env} {s : State} {m : MethodId} {args : Array Value} {below : List Frame} {meth : Method} {c : Code} {ρ : bsR} {sc L : Nat} {xs : Nat → Int32} {cA : Nat → ClassId} {dC : Nat → ClassId} {dI : Nat → Nat → Nat} {A : Nat → Prop} {Ts : List Cond} {σ : xA2} {F : va_W} {B : Nat} {δ : Nat} {z : (Int32 × bsX × pY × Nat)} (C : xCx p m c cL_act 10 s args Ts RL ρ sc L xs cA dC dI A meth (some .boolean)) (hst : l.stackTraces = false)  : ∀ (x7 : Int32) (y0 : Int32) (X : bsX) (Z : pY) (D : Nat) (θ : xA2) (cl sl : Nat), cl + ((24)) ≤ 369 → sl + ((136)) ≤ 1238 + 122 * B → hL_act_903 xs L B x7 y0 X Z D = some z → xV p l e (rmL_act B) s m args below meth c cl sl (MQ below (xQi ρ cA dC dI A (fun r X' R' => r = z.1 ∧ X' = z.2.1 ∧ ∃ σ' θ' : xA2, σ' 0 0 = σ 0 0 ∧ R' = lwWs σ' θ' cA z.2.2.1 ++ (F ++ [(δ, dCell sc z.2.2.2)]))) args s (rmL_act B).cells (rmL_act B).slots A) ρ cA dC dI A (lwWs σ θ cA Z ++ (F ++ [(δ, dCell sc D)])) 10 903 [(0, .ref (ρ 13 0 0)), (1, .ref (σ 0 0)), (2, .ref δ), (7, .int x7)] [.int y0] X := by
  intro x7 y0 X Z D θ cl sl hcl hsl hf
  rw [hL_act_903] at hf
  refine x_istore (lv' := [(8, .int y0), (0, .ref (ρ 13 0 0)), (1, .ref (σ 0 0)), (2, .ref δ), (7, .int x7)]) C dL_act_903 (by decide) rfl ?_
  refine x_iload C dL_act_905 rfl ?_
  refine x_iconst (v := 2) C dL_act_907 (by decide) ?_
  refine x_icmp_ne (tgt := 921) C dL_act_908 (by decide) (fun h52 => ?_) (fun h52 => ?_)
  · replace hf := bs_neg h52 hf
    refine x_iload C dL_act_921 rfl ?_
    refine x_iconst (v := 3) C dL_act_923 (by decide) ?_
    refine x_icmp_ne (tgt := 937) C dL_act_924 (by decide) (fun h48 => ?_) (fun h48 => ?_)
    · replace hf := bs_neg h48 hf
      refine x_iload C dL_act_937 rfl ?_
      refine x_iconst (v := 4) C dL_act_939 (by decide) ?_
      refine x_icmp_ne (tgt := 953) C dL_act_940 (by decide) (fun h44 => ?_) (fun h44 => ?_)
      · replace hf := bs_neg h44 hf
        refine x_bipush (v := 99) C dL_act_953 (by decide) ?_
        refine x_aload_n C dL_act_955 rfl rfl ?_
        refine xg_L_145 C dL_act_956 ?_
        refine x_aload_n C dL_act_959 rfl rfl ?_
        refine x_iconst (v := 0) C dL_act_960 (by decide) ?_
        refine x_iconst (v := 3) C dL_act_961 (by decide) ?_
        obtain ⟨hg40, hf⟩ := bs_if hf
        refine xu_next (T' := [(δ, dCell sc (D + 1))]) (As := [.int (0 : Int32), .int (3 : Int32)]) (rest := [.int (Z 0 0 8), .int (99 : Int32)]) (at0 := D) (lo := (0 : Int32)) (hi := (3 : Int32)) C 0 rfl rfl (by decide) hg40 ml_L_198 rfl ⟨Nat.le_of_ble_eq_true rfl, Nat.le_of_ble_eq_true rfl⟩ ⟨by show (cl) ≤ 369; omega, by show (sl) ≤ 1238 + 122 * B; omega⟩ rfl (Nat.le_of_ble_eq_true rfl) dL_act_962 ?_
        refine x_iadd C dL_act_965 ?_
        refine x_mmin C (Nat.le_of_ble_eq_true rfl) (Nat.le_of_ble_eq_true rfl) (by show _ ≤ 369; omega) (by show _ ≤ 1238 + 122 * B; omega) (mm_L_212) dL_act_966 ?_
        refine x_sub [1, 2, 4, 0] rfl ?_
        exact qL_act_969  C hst  _ _ _ _ _ _ _  _ _  (by omega) (by omega) hf
      · replace hf := bs_pos h44 hf
        refine x_aload_n C dL_act_943 rfl rfl ?_
        refine x_iconst (v := 0) C dL_act_944 (by decide) ?_
        refine x_bipush (v := 7) C dL_act_945 (by decide) ?_
        obtain ⟨hg43, hf⟩ := bs_if hf
        refine xu_next (T' := [(δ, dCell sc (D + 1))]) (As := [.int (0 : Int32), .int (7 : Int32)]) (rest := []) (at0 := D) (lo := (0 : Int32)) (hi := (7 : Int32)) C 0 rfl rfl (by decide) hg43 ml_L_198 rfl ⟨Nat.le_of_ble_eq_true rfl, Nat.le_of_ble_eq_true rfl⟩ ⟨by show (cl) ≤ 369; omega, by show (sl) ≤ 1238 + 122 * B; omega⟩ rfl (Nat.le_of_ble_eq_true rfl) dL_act_947 ?_
        refine x_goto (tgt := 969) C dL_act_950 (by decide) ?_
        refine x_sub [1, 2, 4, 0] rfl ?_
        exact qL_act_969  C hst  _ _ _ _ _ _ _  _ _  (by omega) (by omega) hf
    · replace hf := bs_pos h48 hf
      refine x_aload_n C dL_act_927 rfl rfl ?_
      refine x_iconst (v := 1) C dL_act_928 (by decide) ?_
      refine x_bipush (v := 9) C dL_act_929 (by decide) ?_
      obtain ⟨hg47, hf⟩ := bs_if hf
      refine xu_next (T' := [(δ, dCell sc (D + 1))]) (As := [.int (1 : Int32), .int (9 : Int32)]) (rest := []) (at0 := D) (lo := (1 : Int32)) (hi := (9 : Int32)) C 0 rfl rfl (by decide) hg47 ml_L_198 rfl ⟨Nat.le_of_ble_eq_true rfl, Nat.le_of_ble_eq_true rfl⟩ ⟨by show (cl) ≤ 369; omega, by show (sl) ≤ 1238 + 122 * B; omega⟩ rfl (Nat.le_of_ble_eq_true rfl) dL_act_931 ?_
      refine x_goto (tgt := 969) C dL_act_934 (by decide) ?_
      refine x_sub [1, 2, 4, 0] rfl ?_
      exact qL_act_969  C hst  _ _ _ _ _ _ _  _ _  (by omega) (by omega) hf
  · replace hf := bs_pos h52 hf
    refine x_aload_n C dL_act_911 rfl rfl ?_
    refine x_iconst (v := 1) C dL_act_912 (by decide) ?_
    refine x_bipush (v := 20) C dL_act_913 (by decide) ?_
    obtain ⟨hg51, hf⟩ := bs_if hf
    refine xu_next (T' := [(δ, dCell sc (D + 1))]) (As := [.int (1 : Int32), .int (20 : Int32)]) (rest := []) (at0 := D) (lo := (1 : Int32)) (hi := (20 : Int32)) C 0 rfl rfl (by decide) hg51 ml_L_198 rfl ⟨Nat.le_of_ble_eq_true rfl, Nat.le_of_ble_eq_true rfl⟩ ⟨by show (cl) ≤ 369; omega, by show (sl) ≤ 1238 + 122 * B; omega⟩ rfl (Nat.le_of_ble_eq_true rfl) dL_act_915 ?_
    refine x_goto (tgt := 969) C dL_act_918 (by decide) ?_
    refine x_sub [1, 2, 4, 0] rfl ?_
    exact qL_act_969  C hst  _ _ _ _ _ _ _  _ _  (by omega) (by omega) hf
set_option maxHeartbeats 4000000 in
set_option maxRecDepth 100000 in
theorem qL_act_105 {p : Program} {l : Launch} {e : Env} {s : State} {m : MethodId} {args : Array Value} {below : List Frame} {meth : Method} {c : Code} {ρ : bsR} {sc L : Nat} {xs : Nat → Int32} {cA : Nat → ClassId} {dC : Nat → ClassId} {dI : Nat → Nat → Nat} {A : Nat → Prop} {Ts : List Cond} {σ : xA2} {F : va_W} {B : Nat} {δ : Nat} {z : (Int32 × bsX × pY × Nat)} (C : xCx p m c cL_act 10 s args Ts RL ρ sc L xs cA dC dI A meth (some .boolean)) (hst : l.stackTraces = false)  : ∀ (x3 : Int32) (x4 : Int32) (x5 : Int32) (q6 : Nat) (X : bsX) (Z : pY) (D : Nat) (θ : xA2) (cl sl : Nat), q6 < ln Z → cl + ((369)) ≤ 369 → sl + ((1238 + 122 * B)) ≤ 1238 + 122 * B → hL_act_105 xs L B x3 x4 x5 q6 X Z D = some z → xV p l e (rmL_act B) s m args below meth c cl sl (MQ below (xQi ρ cA dC dI A (fun r X' R' => r = z.1 ∧ X' = z.2.1 ∧ ∃ σ' θ' : xA2, σ' 0 0 = σ 0 0 ∧ R' = lwWs σ' θ' cA z.2.2.1 ++ (F ++ [(δ, dCell sc z.2.2.2)]))) args s (rmL_act B).cells (rmL_act B).slots A) ρ cA dC dI A (lwWs σ θ cA Z ++ (F ++ [(δ, dCell sc D)])) 10 105 [(0, .ref (ρ 13 0 0)), (1, .ref (σ 0 0)), (2, .ref δ), (3, .int x3), (4, .int x4), (5, .int x5), (6, .ref (σ 5 q6))] [] X := by
  intro x3 x4 x5 q6 X Z D θ cl sl hq6 hcl hsl hf
  rw [hL_act_105] at hf
  refine x_iload_n C dL_act_105 rfl rfl ?_
  refine x_iconst (v := 5) C dL_act_106 (by decide) ?_
  refine x_icmp_ge (tgt := 163) C dL_act_107 (by decide) (fun h142 => ?_) (fun h142 => ?_)
  · replace hf := bs_pos h142 hf
    refine x_iload_n C dL_act_163 rfl rfl ?_
    refine x_iconst (v := 5) C dL_act_164 (by decide) ?_
    refine x_icmp_ne (tgt := 231) C dL_act_165 (by decide) (fun h137 => ?_) (fun h137 => ?_)
    · replace hf := bs_neg h137 hf
      refine x_iload_n C dL_act_231 rfl rfl ?_
      refine x_bipush (v := 6) C dL_act_232 (by decide) ?_
      refine x_icmp_ne (tgt := 319) C dL_act_234 (by decide) (fun h118 => ?_) (fun h118 => ?_)
      · replace hf := bs_neg h118 hf
        refine x_iload_n C dL_act_319 rfl rfl ?_
        refine x_bipush (v := 7) C dL_act_320 (by decide) ?_
        refine x_icmp_eq (tgt := 331) C dL_act_322 (by decide) (fun h104 => ?_) (fun h104 => ?_)
        · replace hf := bs_pos h104 hf
          refine x_sub [0, 1, 2, 4, 6] rfl ?_
          exact qL_act_331  C hst  _ _ _ _ _ _  _ _ hq6 (by omega) (by omega) hf
        · replace hf := bs_neg h104 hf
          refine x_iload_n C dL_act_325 rfl rfl ?_
          refine x_bipush (v := 8) C dL_act_326 (by decide) ?_
          refine x_icmp_ne (tgt := 563) C dL_act_328 (by decide) (fun h103 => ?_) (fun h103 => ?_)
          · replace hf := bs_neg h103 hf
            refine x_iload_n C dL_act_563 rfl rfl ?_
            refine x_bipush (v := 9) C dL_act_564 (by decide) ?_
            refine x_icmp_ne (tgt := 717) C dL_act_566 (by decide) (fun h102 => ?_) (fun h102 => ?_)
            · replace hf := bs_neg h102 hf
              refine x_iload_n C dL_act_717 rfl rfl ?_
              refine x_bipush (v := 10) C dL_act_718 (by decide) ?_
              refine x_icmp_ne (tgt := 852) C dL_act_720 (by decide) (fun h86 => ?_) (fun h86 => ?_)
              · replace hf := bs_neg h86 hf
                refine x_aload_n C dL_act_852 rfl rfl ?_
                refine x_iconst (v := 2) C dL_act_853 (by decide) ?_
                refine x_iconst (v := 5) C dL_act_854 (by decide) ?_
                obtain ⟨hg55, hf⟩ := bs_if hf
                refine xu_next (T' := [(δ, dCell sc (D + 1))]) (As := [.int (2 : Int32), .int (5 : Int32)]) (rest := []) (at0 := D) (lo := (2 : Int32)) (hi := (5 : Int32)) C 0 rfl rfl (by decide) hg55 ml_L_198 rfl ⟨Nat.le_of_ble_eq_true rfl, Nat.le_of_ble_eq_true rfl⟩ ⟨by show (cl) ≤ 369; omega, by show (sl) ≤ 1238 + 122 * B; omega⟩ rfl (Nat.le_of_ble_eq_true rfl) dL_act_855 ?_
                refine x_istore (lv' := [(7, .int (dVal xs L D (2 : Int32) (5 : Int32))), (0, .ref (ρ 13 0 0)), (1, .ref (σ 0 0)), (2, .ref δ), (3, .int x3), (4, .int x4), (5, .int x5), (6, .ref (σ 5 q6))]) C dL_act_858 (by decide) rfl ?_
                refine x_iload C dL_act_860 rfl ?_
                refine x_iconst (v := 2) C dL_act_862 (by decide) ?_
                refine x_icmp_ne (tgt := 873) C dL_act_863 (by decide) (fun h58 => ?_) (fun h58 => ?_)
                · replace hf := bs_neg h58 hf
                  refine x_iload C dL_act_873 rfl ?_
                  refine x_iconst (v := 3) C dL_act_875 (by decide) ?_
                  refine x_icmp_ne (tgt := 886) C dL_act_876 (by decide) (fun h57 => ?_) (fun h57 => ?_)
                  · replace hf := bs_neg h57 hf
                    refine x_iload C dL_act_886 rfl ?_
                    refine x_iconst (v := 4) C dL_act_888 (by decide) ?_
                    refine x_icmp_ne (tgt := 899) C dL_act_889 (by decide) (fun h56 => ?_) (fun h56 => ?_)
                    · replace hf := bs_neg h56 hf
                      refine x_aload_n C dL_act_899 rfl rfl ?_
                      refine xg_L_145 C dL_act_900 ?_
                      refine x_sub [1, 2, 3, 0] rfl ?_
                      exact qL_act_903  C hst  _ _ _ _ _ _  _ _  (by omega) (by omega) hf
                    · replace hf := bs_pos h56 hf
                      refine x_aload_n C dL_act_892 rfl rfl ?_
                      refine xg_L_142 C dL_act_893 ?_
                      refine x_goto (tgt := 903) C dL_act_896 (by decide) ?_
                      refine x_sub [1, 2, 3, 0] rfl ?_
                      exact qL_act_903  C hst  _ _ _ _ _ _  _ _  (by omega) (by omega) hf
                  · replace hf := bs_pos h57 hf
                    refine x_aload_n C dL_act_879 rfl rfl ?_
                    refine xg_L_139 C dL_act_880 ?_
                    refine x_goto (tgt := 903) C dL_act_883 (by decide) ?_
                    refine x_sub [1, 2, 3, 0] rfl ?_
                    exact qL_act_903  C hst  _ _ _ _ _ _  _ _  (by omega) (by omega) hf
                · replace hf := bs_pos h58 hf
                  refine x_aload_n C dL_act_866 rfl rfl ?_
                  refine xg_L_136 C dL_act_867 ?_
                  refine x_goto (tgt := 903) C dL_act_870 (by decide) ?_
                  refine x_sub [1, 2, 3, 0] rfl ?_
                  exact qL_act_903  C hst  _ _ _ _ _ _  _ _  (by omega) (by omega) hf
              · replace hf := bs_pos h86 hf
                refine x_aload_n C dL_act_723 rfl rfl ?_
                refine x_iconst (v := 0) C dL_act_724 (by decide) ?_
                refine x_bipush (v := 15) C dL_act_725 (by decide) ?_
                obtain ⟨hg61, hf⟩ := bs_if hf
                refine xu_next (T' := [(δ, dCell sc (D + 1))]) (As := [.int (0 : Int32), .int (15 : Int32)]) (rest := []) (at0 := D) (lo := (0 : Int32)) (hi := (15 : Int32)) C 0 rfl rfl (by decide) hg61 ml_L_198 rfl ⟨Nat.le_of_ble_eq_true rfl, Nat.le_of_ble_eq_true rfl⟩ ⟨by show (cl) ≤ 369; omega, by show (sl) ≤ 1238 + 122 * B; omega⟩ rfl (Nat.le_of_ble_eq_true rfl) dL_act_727 ?_
                refine x_istore (lv' := [(7, .int (dVal xs L D (0 : Int32) (15 : Int32))), (0, .ref (ρ 13 0 0)), (1, .ref (σ 0 0)), (2, .ref δ), (3, .int x3), (4, .int x4), (5, .int x5), (6, .ref (σ 5 q6))]) C dL_act_730 (by decide) rfl ?_
                refine x_aload_n C dL_act_732 rfl rfl ?_
                refine x_iconst (v := 0) C dL_act_733 (by decide) ?_
                refine x_bipush (v := 7) C dL_act_734 (by decide) ?_
                obtain ⟨hg64, hf⟩ := bs_if hf
                refine xu_next (T' := [(δ, dCell sc ((D + 1) + 1))]) (As := [.int (0 : Int32), .int (7 : Int32)]) (rest := []) (at0 := (D + 1)) (lo := (0 : Int32)) (hi := (7 : Int32)) C 0 rfl rfl (by decide) hg64 ml_L_198 rfl ⟨Nat.le_of_ble_eq_true rfl, Nat.le_of_ble_eq_true rfl⟩ ⟨by show (cl) ≤ 369; omega, by show (sl) ≤ 1238 + 122 * B; omega⟩ rfl (Nat.le_of_ble_eq_true rfl) dL_act_736 ?_
                refine x_istore (lv' := [(8, .int (dVal xs L (D + 1) (0 : Int32) (7 : Int32))), (7, .int (dVal xs L D (0 : Int32) (15 : Int32))), (0, .ref (ρ 13 0 0)), (1, .ref (σ 0 0)), (2, .ref δ), (3, .int x3), (4, .int x4), (5, .int x5), (6, .ref (σ 5 q6))]) C dL_act_739 (by decide) rfl ?_
                refine x_aload C dL_act_741 rfl ?_
                refine xg_L_168 C hq6 dL_act_743 ?_
                refine x_istore (lv' := [(9, .int (Z 5 q6 2)), (8, .int (dVal xs L (D + 1) (0 : Int32) (7 : Int32))), (7, .int (dVal xs L D (0 : Int32) (15 : Int32))), (0, .ref (ρ 13 0 0)), (1, .ref (σ 0 0)), (2, .ref δ), (3, .int x3), (4, .int x4), (5, .int x5), (6, .ref (σ 5 q6))]) C dL_act_746 (by decide) rfl ?_
                refine x_aload C dL_act_748 rfl ?_
                obtain ⟨r65, hc66, hf⟩ := bs_bind hf
                obtain ⟨q0, he⟩ := xr_plc (Z := Z) σ θ cA (F ++ [(δ, dCell sc ((D + 1) + 1))]) hq6
                refine x_callVi (y := yX10_isEmpty) (As := []) (rest := []) C (cX10_isEmpty_ok hq6 hc66) ml_L_164 wyX10_isEmpty he rfl dpX10_isEmpty ⟨Nat.le_of_ble_eq_true rfl, Nat.le_of_ble_eq_true rfl⟩ ⟨by show (cl) + 0 ≤ 369; omega, by show (sl) + (0) ≤ 1238 + 122 * B; omega⟩ rfl (Nat.le_of_ble_eq_true rfl) dL_act_750 (fun r' X' R' hp => ?_)
                obtain ⟨rfl, rfl, θ, rfl⟩ := hp
                refine x_widen (k := (cl)) (n := (sl)) (by show (cl) + 0 ≤ _; omega) (by show (sl) + (0) ≤ _; omega) ?_
                refine x_if_eq (tgt := 790) C dL_act_753 (by decide) (fun h85 => ?_) (fun h85 => ?_)
                · replace hf := bs_pos h85 hf
                  refine x_aload C dL_act_790 rfl ?_
                  refine x_iload C dL_act_792 rfl ?_
                  obtain ⟨hg68, hf⟩ := bs_if hf
                  refine xp_L_168 C hg68 dL_act_794 ?_
                  refine x_aload C dL_act_797 rfl ?_
                  refine x_iload C dL_act_799 rfl ?_
                  refine xp_L_129 C (ln_lt hg68 (by omega)) dL_act_801 ?_
                  refine x_aload_n C dL_act_804 rfl rfl ?_
                  refine x_bipush (v := 12) C dL_act_805 (by decide) ?_
                  refine x_iconst (v := 3) C dL_act_807 (by decide) ?_
                  refine xu_newi (c1 := (cl + 1)) (s1 := (sl + 3)) (N := 3) C (by decide) (by decide) (by decide) ⟨by show _ ≤ 369; omega, by show _ ≤ 1238 + 122 * B; omega⟩ (by omega) (by omega) dL_act_808 (fun α71 => ?_)
                  show xV p l e (rmL_act B) s m args below meth c (cl + 1) (sl + 3) (MQ below (xQi ρ cA dC dI A (fun r X' R' => r = z.1 ∧ X' = z.2.1 ∧ ∃ σ' θ' : xA2, σ' 0 0 = σ 0 0 ∧ R' = lwWs σ' θ' cA z.2.2.1 ++ (F ++ [(δ, dCell sc z.2.2.2)]))) args s (rmL_act B).cells (rmL_act B).slots A) ρ cA dC dI A (lwWs σ θ cA (wr (wr r65.2.2 5 q6 2 (dVal xs L D (0 : Int32) (15 : Int32))) 5 q6 3 (dVal xs L (D + 1) (0 : Int32) (7 : Int32))) ++ (F ++ [(δ, dCell sc ((D + 1) + 1)), (α71, .inl (cA 0, 3, .inl (fun _ => (0 : Int32))))])) 10 810 [(9, .int (Z 5 q6 2)), (8, .int (dVal xs L (D + 1) (0 : Int32) (7 : Int32))), (7, .int (dVal xs L D (0 : Int32) (15 : Int32))), (0, .ref (ρ 13 0 0)), (1, .ref (σ 0 0)), (2, .ref δ), (3, .int x3), (4, .int x4), (5, .int x5), (6, .ref (σ 5 q6))] [.ref α71, .int (12 : Int32), .ref (ρ 13 0 0)] r65.2.1
                  refine x_dup C dL_act_810 rfl ?_
                  refine x_iconst (v := 0) C dL_act_811 (by decide) ?_
                  refine x_iload C dL_act_812 rfl ?_
                  refine xu_st (T' := [(δ, dCell sc ((D + 1) + 1)), (α71, .inl (cA 0, 3, .inl (upd (fun _ => (0 : Int32)) 0 x4)))]) C 1 rfl (by decide) rfl dL_act_814 ?_
                  refine x_dup C dL_act_815 rfl ?_
                  refine x_iconst (v := 1) C dL_act_816 (by decide) ?_
                  refine x_bipush (v := 16) C dL_act_817 (by decide) ?_
                  refine xu_st (T' := [(δ, dCell sc ((D + 1) + 1)), (α71, .inl (cA 0, 3, .inl (upd (upd (fun _ => (0 : Int32)) 0 x4) 1 (16 : Int32))))]) C 1 rfl (by decide) rfl dL_act_819 ?_
                  refine x_dup C dL_act_820 rfl ?_
                  refine x_iconst (v := 2) C dL_act_821 (by decide) ?_
                  refine x_iconst (v := 0) C dL_act_822 (by decide) ?_
                  refine xu_st (T' := [(δ, dCell sc ((D + 1) + 1)), (α71, .inl (cA 0, 3, .inl (upd (upd (upd (fun _ => (0 : Int32)) 0 x4) 1 (16 : Int32)) 2 (0 : Int32))))]) C 1 rfl (by decide) rfl dL_act_823 ?_
                  obtain ⟨r72, hc73, hf⟩ := bs_bind hf
                  obtain ⟨hk74, hf⟩ := bs_if hf
                  refine xu_thrown C 1 rfl (by decide) hk74 (fun R2 q2 b h9 => cL_calls_12 hst h9 hc73 hk74.1) ⟨Nat.le_of_ble_eq_true rfl, Nat.le_of_ble_eq_true rfl⟩ ⟨by show (cl + 1) + 10 ≤ 369; omega, by show (sl + 3) + 60 ≤ 1238 + 122 * B; omega⟩ rfl (Nat.le_of_ble_eq_true rfl) dL_act_824 ?_
                  refine x_widen (k := (cl + 11)) (n := (sl + 63)) (by show (cl + 1) + 10 ≤ _; omega) (by show (sl + 3) + 60 ≤ _; omega) ?_
                  refine x_iconst (v := 3) C dL_act_827 (by decide) ?_
                  refine x_icmp_ne (tgt := 850) C dL_act_828 (by decide) (fun h79 => ?_) (fun h79 => ?_)
                  · replace hf := bs_neg h79 hf
                    refine x_iconst (v := 0) C dL_act_850 (by decide) ?_
                    obtain rfl := Option.some.inj hf
                    refine xu_drop (T' := [(δ, dCell sc ((D + 1) + 1))]) (sl_keep (List.Sublist.cons _ List.Sublist.slnil)) ?_
                    exact x_xret C (bsZ01 (by decide)).1 ⟨rfl, rfl, σ, _, rfl, rfl⟩ (by show _ ≤ 369; omega) (by show _ ≤ 1238 + 122 * B; omega) dL_act_851
                  · replace hf := bs_pos h79 hf
                    refine x_aload_n C dL_act_831 rfl rfl ?_
                    refine x_iload C dL_act_832 rfl ?_
                    refine x_iload C dL_act_834 rfl ?_
                    refine x_iload C dL_act_836 rfl ?_
                    obtain ⟨r75, hc76, hf⟩ := bs_bind hf
                    obtain ⟨h077, hf⟩ := bs_if hf
                    refine x_callT (y := yX8_mark) (As := [.int x4, .int (dVal xs L D (0 : Int32) (15 : Int32)), .int (dVal xs L (D + 1) (0 : Int32) (7 : Int32))]) (rest := []) C (cX8_mark_ok hst hc76) h077 ml_L_70 wyX8_mark bsm_X8 bsc_X8 rfl dpX8_mark ⟨Nat.le_of_ble_eq_true rfl, Nat.le_of_ble_eq_true rfl⟩ ⟨by show (cl + 11) + 5 ≤ 369; omega, by show (sl + 63) + 30 ≤ 1238 + 122 * B; omega⟩ rfl (Nat.le_of_ble_eq_true rfl) dL_act_838 ?_
                    refine x_widen (k := (cl + 16)) (n := (sl + 93)) (by show (cl + 11) + 5 ≤ _; omega) (by show (sl + 63) + 30 ≤ _; omega) ?_
                    refine x_iload C dL_act_841 rfl ?_
                    refine x_icmp_ne (tgt := 850) C dL_act_843 (by decide) (fun h78 => ?_) (fun h78 => ?_)
                    · replace hf := bs_neg h78 hf
                      refine x_iconst (v := 0) C dL_act_850 (by decide) ?_
                      obtain rfl := Option.some.inj hf
                      refine xu_drop (T' := [(δ, dCell sc ((D + 1) + 1))]) (sl_keep (List.Sublist.cons _ List.Sublist.slnil)) ?_
                      exact x_xret C (bsZ01 (by decide)).1 ⟨rfl, rfl, σ, _, rfl, rfl⟩ (by show _ ≤ 369; omega) (by show _ ≤ 1238 + 122 * B; omega) dL_act_851
                    · replace hf := bs_pos h78 hf
                      refine x_iconst (v := 1) C dL_act_846 (by decide) ?_
                      refine x_goto (tgt := 851) C dL_act_847 (by decide) ?_
                      obtain rfl := Option.some.inj hf
                      refine xu_drop (T' := [(δ, dCell sc ((D + 1) + 1))]) (sl_keep (List.Sublist.cons _ List.Sublist.slnil)) ?_
                      exact x_xret C (bsZ01 (by decide)).1 ⟨rfl, rfl, σ, _, rfl, rfl⟩ (by show _ ≤ 369; omega) (by show _ ≤ 1238 + 122 * B; omega) dL_act_851
                · replace hf := bs_neg h85 hf
                  refine x_aload_n C dL_act_756 rfl rfl ?_
                  refine x_bipush (v := 12) C dL_act_757 (by decide) ?_
                  refine x_iconst (v := 3) C dL_act_759 (by decide) ?_
                  refine xu_newi (c1 := (cl + 1)) (s1 := (sl + 3)) (N := 3) C (by decide) (by decide) (by decide) ⟨by show _ ≤ 369; omega, by show _ ≤ 1238 + 122 * B; omega⟩ (by omega) (by omega) dL_act_760 (fun α80 => ?_)
                  show xV p l e (rmL_act B) s m args below meth c (cl + 1) (sl + 3) (MQ below (xQi ρ cA dC dI A (fun r X' R' => r = z.1 ∧ X' = z.2.1 ∧ ∃ σ' θ' : xA2, σ' 0 0 = σ 0 0 ∧ R' = lwWs σ' θ' cA z.2.2.1 ++ (F ++ [(δ, dCell sc z.2.2.2)]))) args s (rmL_act B).cells (rmL_act B).slots A) ρ cA dC dI A (lwWs σ θ cA r65.2.2 ++ (F ++ [(δ, dCell sc ((D + 1) + 1)), (α80, .inl (cA 0, 3, .inl (fun _ => (0 : Int32))))])) 10 762 [(9, .int (Z 5 q6 2)), (8, .int (dVal xs L (D + 1) (0 : Int32) (7 : Int32))), (7, .int (dVal xs L D (0 : Int32) (15 : Int32))), (0, .ref (ρ 13 0 0)), (1, .ref (σ 0 0)), (2, .ref δ), (3, .int x3), (4, .int x4), (5, .int x5), (6, .ref (σ 5 q6))] [.ref α80, .int (12 : Int32), .ref (ρ 13 0 0)] r65.2.1
                  refine x_dup C dL_act_762 rfl ?_
                  refine x_iconst (v := 0) C dL_act_763 (by decide) ?_
                  refine x_iload C dL_act_764 rfl ?_
                  refine xu_st (T' := [(δ, dCell sc ((D + 1) + 1)), (α80, .inl (cA 0, 3, .inl (upd (fun _ => (0 : Int32)) 0 x4)))]) C 1 rfl (by decide) rfl dL_act_766 ?_
                  refine x_dup C dL_act_767 rfl ?_
                  refine x_iconst (v := 1) C dL_act_768 (by decide) ?_
                  refine x_iload C dL_act_769 rfl ?_
                  refine xu_st (T' := [(δ, dCell sc ((D + 1) + 1)), (α80, .inl (cA 0, 3, .inl (upd (upd (fun _ => (0 : Int32)) 0 x4) 1 (dVal xs L D (0 : Int32) (15 : Int32)))))]) C 1 rfl (by decide) rfl dL_act_771 ?_
                  refine x_dup C dL_act_772 rfl ?_
                  refine x_iconst (v := 2) C dL_act_773 (by decide) ?_
                  refine x_iload C dL_act_774 rfl ?_
                  refine xu_st (T' := [(δ, dCell sc ((D + 1) + 1)), (α80, .inl (cA 0, 3, .inl (upd (upd (upd (fun _ => (0 : Int32)) 0 x4) 1 (dVal xs L D (0 : Int32) (15 : Int32))) 2 (dVal xs L (D + 1) (0 : Int32) (7 : Int32)))))]) C 1 rfl (by decide) rfl dL_act_776 ?_
                  obtain ⟨r81, hc82, hf⟩ := bs_bind hf
                  obtain ⟨hk83, hf⟩ := bs_if hf
                  refine xu_thrown C 1 rfl (by decide) hk83 (fun R2 q2 b h9 => cL_calls_12 hst h9 hc82 hk83.1) ⟨Nat.le_of_ble_eq_true rfl, Nat.le_of_ble_eq_true rfl⟩ ⟨by show (cl + 1) + 10 ≤ 369; omega, by show (sl + 3) + 60 ≤ 1238 + 122 * B; omega⟩ rfl (Nat.le_of_ble_eq_true rfl) dL_act_777 ?_
                  refine x_widen (k := (cl + 11)) (n := (sl + 63)) (by show (cl + 1) + 10 ≤ _; omega) (by show (sl + 3) + 60 ≤ _; omega) ?_
                  refine x_iconst (v := 3) C dL_act_780 (by decide) ?_
                  refine x_icmp_ne (tgt := 788) C dL_act_781 (by decide) (fun h84 => ?_) (fun h84 => ?_)
                  · replace hf := bs_neg h84 hf
                    refine x_iconst (v := 0) C dL_act_788 (by decide) ?_
                    obtain rfl := Option.some.inj hf
                    refine xu_drop (T' := [(δ, dCell sc ((D + 1) + 1))]) (sl_keep (List.Sublist.cons _ List.Sublist.slnil)) ?_
                    exact x_xret C (bsZ01 (by decide)).1 ⟨rfl, rfl, σ, _, rfl, rfl⟩ (by show _ ≤ 369; omega) (by show _ ≤ 1238 + 122 * B; omega) dL_act_789
                  · replace hf := bs_pos h84 hf
                    refine x_iconst (v := 1) C dL_act_784 (by decide) ?_
                    refine x_goto (tgt := 789) C dL_act_785 (by decide) ?_
                    obtain rfl := Option.some.inj hf
                    refine xu_drop (T' := [(δ, dCell sc ((D + 1) + 1))]) (sl_keep (List.Sublist.cons _ List.Sublist.slnil)) ?_
                    exact x_xret C (bsZ01 (by decide)).1 ⟨rfl, rfl, σ, _, rfl, rfl⟩ (by show _ ≤ 369; omega) (by show _ ≤ 1238 + 122 * B; omega) dL_act_789
            · replace hf := bs_pos h102 hf
              refine x_aload_n C dL_act_569 rfl rfl ?_
              refine x_iconst (v := 0) C dL_act_570 (by decide) ?_
              refine x_iconst (v := 2) C dL_act_571 (by decide) ?_
              obtain ⟨hg89, hf⟩ := bs_if hf
              refine xu_next (T' := [(δ, dCell sc (D + 1))]) (As := [.int (0 : Int32), .int (2 : Int32)]) (rest := []) (at0 := D) (lo := (0 : Int32)) (hi := (2 : Int32)) C 0 rfl rfl (by decide) hg89 ml_L_198 rfl ⟨Nat.le_of_ble_eq_true rfl, Nat.le_of_ble_eq_true rfl⟩ ⟨by show (cl) ≤ 369; omega, by show (sl) ≤ 1238 + 122 * B; omega⟩ rfl (Nat.le_of_ble_eq_true rfl) dL_act_572 ?_
              refine x_istore (lv' := [(7, .int (dVal xs L D (0 : Int32) (2 : Int32))), (0, .ref (ρ 13 0 0)), (1, .ref (σ 0 0)), (2, .ref δ), (3, .int x3), (4, .int x4), (5, .int x5), (6, .ref (σ 5 q6))]) C dL_act_575 (by decide) rfl ?_
              refine x_aload C dL_act_577 rfl ?_
              obtain ⟨r90, hc91, hf⟩ := bs_bind hf
              obtain ⟨q0, he⟩ := xr_plc (Z := Z) σ θ cA (F ++ [(δ, dCell sc (D + 1))]) hq6
              refine x_callVi (y := yX10_isEmpty) (As := []) (rest := []) C (cX10_isEmpty_ok hq6 hc91) ml_L_164 wyX10_isEmpty he rfl dpX10_isEmpty ⟨Nat.le_of_ble_eq_true rfl, Nat.le_of_ble_eq_true rfl⟩ ⟨by show (cl) + 0 ≤ 369; omega, by show (sl) + (0) ≤ 1238 + 122 * B; omega⟩ rfl (Nat.le_of_ble_eq_true rfl) dL_act_579 (fun r' X' R' hp => ?_)
              obtain ⟨rfl, rfl, θ, rfl⟩ := hp
              refine x_widen (k := (cl)) (n := (sl)) (by show (cl) + 0 ≤ _; omega) (by show (sl) + (0) ≤ _; omega) ?_
              refine x_if_eq (tgt := 623) C dL_act_582 (by decide) (fun h101 => ?_) (fun h101 => ?_)
              · replace hf := bs_pos h101 hf
                obtain ⟨hg93, hf⟩ := bs_if hf
                refine x_sub [1, 2, 3, 5, 7, 0] rfl ?_
                exact qL_act_623  C hst  _ _ _ _ _ _ _  _ _ hg93 (by omega) (by omega) hf
              · replace hf := bs_neg h101 hf
                refine x_aload_n C dL_act_585 rfl rfl ?_
                refine xg_L_185 C dL_act_586 ?_
                refine x_iload C dL_act_589 rfl ?_
                refine x_icmp_eq (tgt := 623) C dL_act_591 (by decide) (fun h100 => ?_) (fun h100 => ?_)
                · replace hf := bs_pos h100 hf
                  obtain ⟨hg94, hf⟩ := bs_if hf
                  refine x_sub [1, 2, 3, 5, 7, 0] rfl ?_
                  exact qL_act_623  C hst  _ _ _ _ _ _ _  _ _ hg94 (by omega) (by omega) hf
                · replace hf := bs_neg h100 hf
                  refine x_aload_n C dL_act_594 rfl rfl ?_
                  refine x_bipush (v := 10) C dL_act_595 (by decide) ?_
                  refine x_iconst (v := 2) C dL_act_597 (by decide) ?_
                  refine xu_newi (c1 := (cl + 1)) (s1 := (sl + 2)) (N := 2) C (by decide) (by decide) (by decide) ⟨by show _ ≤ 369; omega, by show _ ≤ 1238 + 122 * B; omega⟩ (by omega) (by omega) dL_act_598 (fun α95 => ?_)
                  show xV p l e (rmL_act B) s m args below meth c (cl + 1) (sl + 2) (MQ below (xQi ρ cA dC dI A (fun r X' R' => r = z.1 ∧ X' = z.2.1 ∧ ∃ σ' θ' : xA2, σ' 0 0 = σ 0 0 ∧ R' = lwWs σ' θ' cA z.2.2.1 ++ (F ++ [(δ, dCell sc z.2.2.2)]))) args s (rmL_act B).cells (rmL_act B).slots A) ρ cA dC dI A (lwWs σ θ cA r90.2.2 ++ (F ++ [(δ, dCell sc (D + 1)), (α95, .inl (cA 0, 2, .inl (fun _ => (0 : Int32))))])) 10 600 [(7, .int (dVal xs L D (0 : Int32) (2 : Int32))), (0, .ref (ρ 13 0 0)), (1, .ref (σ 0 0)), (2, .ref δ), (3, .int x3), (4, .int x4), (5, .int x5), (6, .ref (σ 5 q6))] [.ref α95, .int (10 : Int32), .ref (ρ 13 0 0)] r90.2.1
                  refine x_dup C dL_act_600 rfl ?_
                  refine x_iconst (v := 0) C dL_act_601 (by decide) ?_
                  refine x_iload C dL_act_602 rfl ?_
                  refine xu_st (T' := [(δ, dCell sc (D + 1)), (α95, .inl (cA 0, 2, .inl (upd (fun _ => (0 : Int32)) 0 x4)))]) C 1 rfl (by decide) rfl dL_act_604 ?_
                  refine x_dup C dL_act_605 rfl ?_
                  refine x_iconst (v := 1) C dL_act_606 (by decide) ?_
                  refine x_iload C dL_act_607 rfl ?_
                  refine xu_st (T' := [(δ, dCell sc (D + 1)), (α95, .inl (cA 0, 2, .inl (upd (upd (fun _ => (0 : Int32)) 0 x4) 1 (dVal xs L D (0 : Int32) (2 : Int32)))))]) C 1 rfl (by decide) rfl dL_act_609 ?_
                  obtain ⟨r96, hc97, hf⟩ := bs_bind hf
                  obtain ⟨hk98, hf⟩ := bs_if hf
                  refine xu_thrown C 1 rfl (by decide) hk98 (fun R2 q2 b h9 => cL_calls_10 hst h9 hc97 hk98.1) ⟨Nat.le_of_ble_eq_true rfl, Nat.le_of_ble_eq_true rfl⟩ ⟨by show (cl + 1) + 10 ≤ 369; omega, by show (sl + 2) + 60 ≤ 1238 + 122 * B; omega⟩ rfl (Nat.le_of_ble_eq_true rfl) dL_act_610 ?_
                  refine x_widen (k := (cl + 11)) (n := (sl + 62)) (by show (cl + 1) + 10 ≤ _; omega) (by show (sl + 2) + 60 ≤ _; omega) ?_
                  refine x_iconst (v := 3) C dL_act_613 (by decide) ?_
                  refine x_icmp_ne (tgt := 621) C dL_act_614 (by decide) (fun h99 => ?_) (fun h99 => ?_)
                  · replace hf := bs_neg h99 hf
                    refine x_iconst (v := 0) C dL_act_621 (by decide) ?_
                    obtain rfl := Option.some.inj hf
                    refine xu_drop (T' := [(δ, dCell sc (D + 1))]) (sl_keep (List.Sublist.cons _ List.Sublist.slnil)) ?_
                    exact x_xret C (bsZ01 (by decide)).1 ⟨rfl, rfl, σ, _, rfl, rfl⟩ (by show _ ≤ 369; omega) (by show _ ≤ 1238 + 122 * B; omega) dL_act_622
                  · replace hf := bs_pos h99 hf
                    refine x_iconst (v := 1) C dL_act_617 (by decide) ?_
                    refine x_goto (tgt := 622) C dL_act_618 (by decide) ?_
                    obtain rfl := Option.some.inj hf
                    refine xu_drop (T' := [(δ, dCell sc (D + 1))]) (sl_keep (List.Sublist.cons _ List.Sublist.slnil)) ?_
                    exact x_xret C (bsZ01 (by decide)).1 ⟨rfl, rfl, σ, _, rfl, rfl⟩ (by show _ ≤ 369; omega) (by show _ ≤ 1238 + 122 * B; omega) dL_act_622
          · replace hf := bs_pos h103 hf
            refine x_sub [0, 1, 2, 4, 6] rfl ?_
            exact qL_act_331  C hst  _ _ _ _ _ _  _ _ hq6 (by omega) (by omega) hf
      · replace hf := bs_pos h118 hf
        refine x_aload_n C dL_act_237 rfl rfl ?_
        refine xg_L_148 C dL_act_238 ?_
        refine x_if_eq (tgt := 253) C dL_act_241 (by decide) (fun h117 => ?_) (fun h117 => ?_)
        · replace hf := bs_pos h117 hf
          refine x_sub [0] rfl ?_
          exact qL_act_253  C hst   _ _ _ _  _ _  (by omega) (by omega) hf
        · replace hf := bs_neg h117 hf
          refine x_aload_n C dL_act_244 rfl rfl ?_
          refine x_iconst (v := 0) C dL_act_245 (by decide) ?_
          refine x_iconst (v := 2) C dL_act_246 (by decide) ?_
          obtain ⟨hg107, hf⟩ := bs_if hf
          refine xu_next (T' := [(δ, dCell sc (D + 1))]) (As := [.int (0 : Int32), .int (2 : Int32)]) (rest := []) (at0 := D) (lo := (0 : Int32)) (hi := (2 : Int32)) C 0 rfl rfl (by decide) hg107 ml_L_198 rfl ⟨Nat.le_of_ble_eq_true rfl, Nat.le_of_ble_eq_true rfl⟩ ⟨by show (cl) ≤ 369; omega, by show (sl) ≤ 1238 + 122 * B; omega⟩ rfl (Nat.le_of_ble_eq_true rfl) dL_act_247 ?_
          refine x_if_le (tgt := 278) C dL_act_250 (by decide) (fun h116 => ?_) (fun h116 => ?_)
          · replace hf := bs_pos h116 hf
            refine x_aload_n C dL_act_278 rfl rfl ?_
            refine xg_L_185 C dL_act_279 ?_
            refine x_istore (lv' := [(7, .int (Z 2 0 1)), (0, .ref (ρ 13 0 0)), (1, .ref (σ 0 0)), (2, .ref δ), (3, .int x3), (4, .int x4), (5, .int x5), (6, .ref (σ 5 q6))]) C dL_act_282 (by decide) rfl ?_
            refine x_aload_n C dL_act_284 rfl rfl ?_
            refine x_iconst (v := -1) C dL_act_285 (by decide) ?_
            refine xp_L_185 C dL_act_286 ?_
            refine x_aload_n C dL_act_289 rfl rfl ?_
            refine x_iconst (v := 0) C dL_act_290 (by decide) ?_
            refine xp_L_148 C dL_act_291 ?_
            refine x_aload_n C dL_act_294 rfl rfl ?_
            refine x_iconst (v := -1) C dL_act_295 (by decide) ?_
            refine xp_L_151 C dL_act_296 ?_
            refine x_aload_n C dL_act_299 rfl rfl ?_
            refine x_iconst (v := 0) C dL_act_300 (by decide) ?_
            refine xp_L_154 C dL_act_301 ?_
            refine x_aload_n C dL_act_304 rfl rfl ?_
            obtain ⟨r112, hc113, hf⟩ := bs_bind hf
            obtain ⟨h0114, hf⟩ := bs_if hf
            refine x_callT (y := yX8_cut) (As := []) (rest := []) C (cX8_cut_ok hst hc113) h0114 ml_L_52 wyX8_cut bsm_X8 bsc_X8 rfl dpX8_cut ⟨Nat.le_of_ble_eq_true rfl, Nat.le_of_ble_eq_true rfl⟩ ⟨by show (cl) + 2 ≤ 369; omega, by show (sl) + 12 ≤ 1238 + 122 * B; omega⟩ rfl (Nat.le_of_ble_eq_true rfl) dL_act_305 ?_
            refine x_widen (k := (cl + 2)) (n := (sl + 12)) (by show (cl) + 2 ≤ _; omega) (by show (sl) + 12 ≤ _; omega) ?_
            refine x_iload C dL_act_308 rfl ?_
            refine x_icmp_ne (tgt := 317) C dL_act_310 (by decide) (fun h115 => ?_) (fun h115 => ?_)
            · replace hf := bs_neg h115 hf
              refine x_iconst (v := 0) C dL_act_317 (by decide) ?_
              obtain rfl := Option.some.inj hf
              exact x_xret C (bsZ01 (by decide)).1 ⟨rfl, rfl, σ, _, rfl, rfl⟩ (by show _ ≤ 369; omega) (by show _ ≤ 1238 + 122 * B; omega) dL_act_318
            · replace hf := bs_pos h115 hf
              refine x_iconst (v := 1) C dL_act_313 (by decide) ?_
              refine x_goto (tgt := 318) C dL_act_314 (by decide) ?_
              obtain rfl := Option.some.inj hf
              exact x_xret C (bsZ01 (by decide)).1 ⟨rfl, rfl, σ, _, rfl, rfl⟩ (by show _ ≤ 369; omega) (by show _ ≤ 1238 + 122 * B; omega) dL_act_318
          · replace hf := bs_neg h116 hf
            refine x_sub [0] rfl ?_
            exact qL_act_253  C hst   _ _ _ _  _ _  (by omega) (by omega) hf
    · replace hf := bs_pos h137 hf
      refine x_aload_n C dL_act_168 rfl rfl ?_
      refine xg_L_148 C dL_act_169 ?_
      refine x_if_ne (tgt := 207) C dL_act_172 (by decide) (fun h136 => ?_) (fun h136 => ?_)
      · replace hf := bs_neg h136 hf
        refine x_aload_n C dL_act_207 rfl rfl ?_
        refine x_iconst (v := 1) C dL_act_208 (by decide) ?_
        obtain ⟨r119, hc120, hf⟩ := bs_bind hf
        obtain ⟨q0, he⟩ := xr_wor σ θ cA Z (F ++ [(δ, dCell sc D)])
        refine x_callVi (y := yX11_boot) (As := [.int (1 : Int32)]) (rest := []) C (cX11_boot_ok (B := B)  hc120) ml_L_203 wyX11_boot he rfl dpX11_boot ⟨Nat.le_of_ble_eq_true rfl, Nat.le_of_ble_eq_true rfl⟩ ⟨by show (cl) + 2 ≤ 369; omega, by show (sl) + (5 + 1 * B) ≤ 1238 + 122 * B; omega⟩ rfl (Nat.le_of_ble_eq_true rfl) dL_act_209 (fun r' X' R' hp => ?_)
        obtain ⟨rfl, rfl, θ, rfl⟩ := hp
        refine x_widen (k := (cl + 2)) (n := (sl + 5 + 1 * B)) (by show (cl) + 2 ≤ _; omega) (by show (sl) + (5 + 1 * B) ≤ _; omega) ?_
        refine x_istore (lv' := [(7, .int r119.1), (0, .ref (ρ 13 0 0)), (1, .ref (σ 0 0)), (2, .ref δ), (3, .int x3), (4, .int x4), (5, .int x5), (6, .ref (σ 5 q6))]) C dL_act_212 (by decide) rfl ?_
        refine x_aload_n C dL_act_214 rfl rfl ?_
        obtain ⟨r122, hc123, hf⟩ := bs_bind hf
        obtain ⟨h0124, hf⟩ := bs_if hf
        refine x_callT (y := yX8_reboot) (As := []) (rest := []) C (cX8_reboot_ok hst hc123) h0124 ml_L_55 wyX8_reboot bsm_X8 bsc_X8 rfl dpX8_reboot ⟨Nat.le_of_ble_eq_true rfl, Nat.le_of_ble_eq_true rfl⟩ ⟨by show (cl + 2) + 2 ≤ 369; omega, by show (sl + 5 + 1 * B) + 12 ≤ 1238 + 122 * B; omega⟩ rfl (Nat.le_of_ble_eq_true rfl) dL_act_215 ?_
        refine x_widen (k := (cl + 4)) (n := (sl + 17 + 1 * B)) (by show (cl + 2) + 2 ≤ _; omega) (by show (sl + 5 + 1 * B) + 12 ≤ _; omega) ?_
        refine x_aload_n C dL_act_218 rfl rfl ?_
        refine xg_L_151 C dL_act_219 ?_
        refine x_icmp_ne (tgt := 229) C dL_act_222 (by decide) (fun h125 => ?_) (fun h125 => ?_)
        · replace hf := bs_neg h125 hf
          refine x_iconst (v := 0) C dL_act_229 (by decide) ?_
          obtain rfl := Option.some.inj hf
          exact x_xret C (bsZ01 (by decide)).1 ⟨rfl, rfl, σ, _, rfl, rfl⟩ (by show _ ≤ 369; omega) (by show _ ≤ 1238 + 122 * B; omega) dL_act_230
        · replace hf := bs_pos h125 hf
          refine x_iconst (v := 1) C dL_act_225 (by decide) ?_
          refine x_goto (tgt := 230) C dL_act_226 (by decide) ?_
          obtain rfl := Option.some.inj hf
          exact x_xret C (bsZ01 (by decide)).1 ⟨rfl, rfl, σ, _, rfl, rfl⟩ (by show _ ≤ 369; omega) (by show _ ≤ 1238 + 122 * B; omega) dL_act_230
      · replace hf := bs_pos h136 hf
        refine x_aload_n C dL_act_175 rfl rfl ?_
        refine x_bipush (v := 6) C dL_act_176 (by decide) ?_
        refine x_iconst (v := 0) C dL_act_178 (by decide) ?_
        refine xu_newi (c1 := (cl + 1)) (s1 := (sl)) (N := 0) C (by decide) (by decide) (by decide) ⟨by show _ ≤ 369; omega, by show _ ≤ 1238 + 122 * B; omega⟩ (by omega) (by omega) dL_act_179 (fun α126 => ?_)
        show xV p l e (rmL_act B) s m args below meth c (cl + 1) (sl) (MQ below (xQi ρ cA dC dI A (fun r X' R' => r = z.1 ∧ X' = z.2.1 ∧ ∃ σ' θ' : xA2, σ' 0 0 = σ 0 0 ∧ R' = lwWs σ' θ' cA z.2.2.1 ++ (F ++ [(δ, dCell sc z.2.2.2)]))) args s (rmL_act B).cells (rmL_act B).slots A) ρ cA dC dI A (lwWs σ θ cA Z ++ (F ++ [(δ, dCell sc D), (α126, .inl (cA 0, 0, .inl (fun _ => (0 : Int32))))])) 10 181 [(0, .ref (ρ 13 0 0)), (1, .ref (σ 0 0)), (2, .ref δ), (3, .int x3), (4, .int x4), (5, .int x5), (6, .ref (σ 5 q6))] [.ref α126, .int (6 : Int32), .ref (ρ 13 0 0)] X
        obtain ⟨r127, hc128, hf⟩ := bs_bind hf
        obtain ⟨hk129, hf⟩ := bs_if hf
        refine xu_thrown C 1 rfl (by decide) hk129 (fun R2 q2 b h9 => cL_calls_6 hst h9 hc128 hk129.1) ⟨Nat.le_of_ble_eq_true rfl, Nat.le_of_ble_eq_true rfl⟩ ⟨by show (cl + 1) + 10 ≤ 369; omega, by show (sl) + 60 ≤ 1238 + 122 * B; omega⟩ rfl (Nat.le_of_ble_eq_true rfl) dL_act_181 ?_
        refine x_widen (k := (cl + 11)) (n := (sl + 60)) (by show (cl + 1) + 10 ≤ _; omega) (by show (sl) + 60 ≤ _; omega) ?_
        refine x_iconst (v := 3) C dL_act_184 (by decide) ?_
        refine x_icmp_ne (tgt := 205) C dL_act_185 (by decide) (fun h135 => ?_) (fun h135 => ?_)
        · replace hf := bs_neg h135 hf
          refine x_iconst (v := 0) C dL_act_205 (by decide) ?_
          obtain rfl := Option.some.inj hf
          refine xu_drop (T' := [(δ, dCell sc D)]) (sl_keep (List.Sublist.cons _ List.Sublist.slnil)) ?_
          exact x_xret C (bsZ01 (by decide)).1 ⟨rfl, rfl, σ, _, rfl, rfl⟩ (by show _ ≤ 369; omega) (by show _ ≤ 1238 + 122 * B; omega) dL_act_206
        · replace hf := bs_pos h135 hf
          refine x_aload_n C dL_act_188 rfl rfl ?_
          refine x_bipush (v := 7) C dL_act_189 (by decide) ?_
          refine x_iconst (v := 0) C dL_act_191 (by decide) ?_
          refine xu_newi (c1 := (cl + 12)) (s1 := (sl + 60)) (N := 0) C (by decide) (by decide) (by decide) ⟨by show _ ≤ 369; omega, by show _ ≤ 1238 + 122 * B; omega⟩ (by omega) (by omega) dL_act_192 (fun α130 => ?_)
          show xV p l e (rmL_act B) s m args below meth c (cl + 12) (sl + 60) (MQ below (xQi ρ cA dC dI A (fun r X' R' => r = z.1 ∧ X' = z.2.1 ∧ ∃ σ' θ' : xA2, σ' 0 0 = σ 0 0 ∧ R' = lwWs σ' θ' cA z.2.2.1 ++ (F ++ [(δ, dCell sc z.2.2.2)]))) args s (rmL_act B).cells (rmL_act B).slots A) ρ cA dC dI A (lwWs σ θ cA Z ++ (F ++ [(δ, dCell sc D), (α126, .inl (cA 0, 0, .inl (fun _ => (0 : Int32)))), (α130, .inl (cA 0, 0, .inl (fun _ => (0 : Int32))))])) 10 194 [(0, .ref (ρ 13 0 0)), (1, .ref (σ 0 0)), (2, .ref δ), (3, .int x3), (4, .int x4), (5, .int x5), (6, .ref (σ 5 q6))] [.ref α130, .int (7 : Int32), .ref (ρ 13 0 0)] r127.2.2
          obtain ⟨r131, hc132, hf⟩ := bs_bind hf
          obtain ⟨hk133, hf⟩ := bs_if hf
          refine xu_thrown C 2 rfl (by decide) hk133 (fun R2 q2 b h9 => cL_calls_7 hst h9 hc132 hk133.1) ⟨Nat.le_of_ble_eq_true rfl, Nat.le_of_ble_eq_true rfl⟩ ⟨by show (cl + 12) + 10 ≤ 369; omega, by show (sl + 60) + 60 ≤ 1238 + 122 * B; omega⟩ rfl (Nat.le_of_ble_eq_true rfl) dL_act_194 ?_
          refine x_widen (k := (cl + 22)) (n := (sl + 120)) (by show (cl + 12) + 10 ≤ _; omega) (by show (sl + 60) + 60 ≤ _; omega) ?_
          refine x_iconst (v := 3) C dL_act_197 (by decide) ?_
          refine x_icmp_ne (tgt := 205) C dL_act_198 (by decide) (fun h134 => ?_) (fun h134 => ?_)
          · replace hf := bs_neg h134 hf
            refine x_iconst (v := 0) C dL_act_205 (by decide) ?_
            obtain rfl := Option.some.inj hf
            refine xu_drop (T' := [(δ, dCell sc D)]) (sl_keep (List.Sublist.cons _ (List.Sublist.cons _ List.Sublist.slnil))) ?_
            exact x_xret C (bsZ01 (by decide)).1 ⟨rfl, rfl, σ, _, rfl, rfl⟩ (by show _ ≤ 369; omega) (by show _ ≤ 1238 + 122 * B; omega) dL_act_206
          · replace hf := bs_pos h134 hf
            refine x_iconst (v := 1) C dL_act_201 (by decide) ?_
            refine x_goto (tgt := 206) C dL_act_202 (by decide) ?_
            obtain rfl := Option.some.inj hf
            refine xu_drop (T' := [(δ, dCell sc D)]) (sl_keep (List.Sublist.cons _ (List.Sublist.cons _ List.Sublist.slnil))) ?_
            exact x_xret C (bsZ01 (by decide)).1 ⟨rfl, rfl, σ, _, rfl, rfl⟩ (by show _ ≤ 369; omega) (by show _ ≤ 1238 + 122 * B; omega) dL_act_206
  · replace hf := bs_neg h142 hf
    refine x_aload_n C dL_act_110 rfl rfl ?_
    refine x_iconst (v := 1) C dL_act_111 (by decide) ?_
    refine x_aload_n C dL_act_112 rfl rfl ?_
    refine x_iconst (v := 0) C dL_act_113 (by decide) ?_
    refine x_iconst (v := 2) C dL_act_114 (by decide) ?_
    obtain ⟨hg140, hf⟩ := bs_if hf
    refine xu_next (T' := [(δ, dCell sc (D + 1))]) (As := [.int (0 : Int32), .int (2 : Int32)]) (rest := [.int (1 : Int32), .ref δ]) (at0 := D) (lo := (0 : Int32)) (hi := (2 : Int32)) C 0 rfl rfl (by decide) hg140 ml_L_198 rfl ⟨Nat.le_of_ble_eq_true rfl, Nat.le_of_ble_eq_true rfl⟩ ⟨by show (cl) ≤ 369; omega, by show (sl) ≤ 1238 + 122 * B; omega⟩ rfl (Nat.le_of_ble_eq_true rfl) dL_act_115 ?_
    refine x_if_ne (tgt := 126) C dL_act_118 (by decide) (fun h141 => ?_) (fun h141 => ?_)
    · replace hf := bs_neg h141 hf
      refine x_bipush (v := 6) C dL_act_126 (by decide) ?_
      refine x_sub [0, 1, 5] rfl ?_
      exact qL_act_128  C hst  _ _ _ _ _ _ _  _ _  (by omega) (by omega) hf
    · replace hf := bs_pos h141 hf
      refine x_bipush (v := 60) C dL_act_121 (by decide) ?_
      refine x_goto (tgt := 128) C dL_act_123 (by decide) ?_
      refine x_sub [0, 1, 5] rfl ?_
      exact qL_act_128  C hst  _ _ _ _ _ _ _  _ _  (by omega) (by omega) hf
set_option maxHeartbeats 4000000 in
set_option maxRecDepth 100000 in
theorem cL_act_ok {l : Launch} {ρ : bsR} {sc L : Nat} {xs : Nat → Int32} {cA : Nat → ClassId} {dC : Nat → ClassId} {dI : Nat → Nat → Nat} {σ θ : xA2} {F : va_W} (hst : l.stackTraces = false) {B : Nat} {δ : Nat} {X : bsX} {Z : pY} {D : Nat} {z : (Int32 × bsX × pY × Nat)} (hf : hL_act xs L B X Z D = some z) : xMi l yL_act cL_act 10 (some .boolean) (rmL_act B) ρ sc L xs cA dC dI [.ref (ρ 13 0 0), .ref (σ 0 0), .ref δ] X (lwWs σ θ cA Z ++ (F ++ [(δ, dCell sc D)])) (fun r X' R' => r = z.1 ∧ X' = z.2.1 ∧ ∃ σ' θ' : xA2, σ' 0 0 = σ 0 0 ∧ R' = lwWs σ' θ' cA z.2.2.1 ++ (F ++ [(δ, dCell sc z.2.2.2)])) := by
  refine xMi_of (by decide) (Nat.le_of_ble_eq_true rfl) (fun p e s m args below meth c C => ?_)
  have C : xCx p m c cL_act 10 s args (Cond.code yL_act cL_act 10 (some .boolean) :: bsG) RL ρ sc L xs cA dC dI (bsA ρ cA (lwWs σ θ cA Z ++ (F ++ [(δ, dCell sc D)])) s.heap.size) meth (some .boolean) := C
  rw [hL_act] at hf
  generalize (bsA ρ cA (lwWs σ θ cA Z ++ (F ++ [(δ, dCell sc D)])) s.heap.size) = A at C ⊢
  refine x_sub [0, 1, 2] rfl ?_
  refine x_aload_n C dL_act_0 rfl rfl ?_
  refine x_iconst (v := 0) C dL_act_1 (by decide) ?_
  refine x_bipush (v := 11) C dL_act_2 (by decide) ?_
  obtain ⟨hg279, hf⟩ := bs_if hf
  refine xu_next (T' := [(δ, dCell sc (D + 1))]) (As := [.int (0 : Int32), .int (11 : Int32)]) (rest := []) (at0 := D) (lo := (0 : Int32)) (hi := (11 : Int32)) C 0 rfl rfl (by decide) hg279 ml_L_198 rfl ⟨Nat.le_of_ble_eq_true rfl, Nat.le_of_ble_eq_true rfl⟩ ⟨by show (0) ≤ 369; omega, by show (0) ≤ 1238 + 122 * B; omega⟩ rfl (Nat.le_of_ble_eq_true rfl) dL_act_4 ?_
  refine x_istore_n (lv' := [(3, .int (dVal xs L D (0 : Int32) (11 : Int32))), (0, .ref (ρ 13 0 0)), (1, .ref (σ 0 0)), (2, .ref δ)]) C dL_act_7 rfl (by decide) rfl ?_
  refine x_aload_n C dL_act_8 rfl rfl ?_
  refine x_iconst (v := 0) C dL_act_9 (by decide) ?_
  refine x_aload_n C dL_act_10 rfl rfl ?_
  refine xg_L_114 C dL_act_11 ?_
  refine xn_plc C dL_act_14 ?_
  refine x_iconst (v := 1) C dL_act_15 (by decide) ?_
  refine x_isub C dL_act_16 ?_
  obtain ⟨hg282, hf⟩ := bs_if hf
  obtain ⟨hg283, hf⟩ := bs_if hf
  refine xu_next (T' := [(δ, dCell sc ((D + 1) + 1))]) (As := [.int (0 : Int32), .int ((nI (ln Z)) - (1 : Int32))]) (rest := []) (at0 := (D + 1)) (lo := (0 : Int32)) (hi := ((nI (ln Z)) - (1 : Int32))) C 0 rfl rfl hg282 hg283 ml_L_198 rfl ⟨Nat.le_of_ble_eq_true rfl, Nat.le_of_ble_eq_true rfl⟩ ⟨by show (0) ≤ 369; omega, by show (0) ≤ 1238 + 122 * B; omega⟩ rfl (Nat.le_of_ble_eq_true rfl) dL_act_17 ?_
  refine x_istore (lv' := [(4, .int (dVal xs L (D + 1) (0 : Int32) ((nI (ln Z)) - (1 : Int32)))), (3, .int (dVal xs L D (0 : Int32) (11 : Int32))), (0, .ref (ρ 13 0 0)), (1, .ref (σ 0 0)), (2, .ref δ)]) C dL_act_20 (by decide) rfl ?_
  refine x_aload_n C dL_act_22 rfl rfl ?_
  refine xg_L_160 C dL_act_23 ?_
  refine x_bipush (v := 12) C dL_act_26 (by decide) ?_
  refine xl_cnt C (by decide) dL_act_28 ?_
  refine x_istore (lv' := [(5, .int (Z 11 0 12)), (4, .int (dVal xs L (D + 1) (0 : Int32) ((nI (ln Z)) - (1 : Int32)))), (3, .int (dVal xs L D (0 : Int32) (11 : Int32))), (0, .ref (ρ 13 0 0)), (1, .ref (σ 0 0)), (2, .ref δ)]) C dL_act_29 (by decide) rfl ?_
  refine x_aload_n C dL_act_31 rfl rfl ?_
  refine xg_L_114 C dL_act_32 ?_
  refine x_iload C dL_act_35 rfl ?_
  obtain ⟨hg284, hf⟩ := bs_if hf
  refine xa_plc C hg284 dL_act_37 ?_
  refine x_astore (lv' := [(6, .ref (σ 5 (bsIx (dVal xs L (D + 1) (0 : Int32) ((nI (ln Z)) - (1 : Int32)))))), (5, .int (Z 11 0 12)), (4, .int (dVal xs L (D + 1) (0 : Int32) ((nI (ln Z)) - (1 : Int32)))), (3, .int (dVal xs L D (0 : Int32) (11 : Int32))), (0, .ref (ρ 13 0 0)), (1, .ref (σ 0 0)), (2, .ref δ)]) C dL_act_38 (by decide) rfl ?_
  refine x_iload_n C dL_act_40 rfl rfl ?_
  refine x_if_eq (tgt := 56) C dL_act_41 (by decide) (fun h287 => ?_) (fun h287 => ?_)
  · replace hf := bs_pos h287 hf
    refine x_sub [4, 5] rfl ?_
    exact qL_act_56  C hst   _ _ _ _  _ _  (by omega) (by omega) hf
  · replace hf := bs_neg h287 hf
    refine x_aload_n C dL_act_44 rfl rfl ?_
    refine xg_L_148 C dL_act_45 ?_
    refine x_if_ne (tgt := 105) C dL_act_48 (by decide) (fun h286 => ?_) (fun h286 => ?_)
    · replace hf := bs_neg h286 hf
      refine x_sub [4, 5, 6, 3, 2, 1, 0] rfl ?_
      exact qL_act_105  C hst  _ _ _ _ _ _ _ _  _ _ (bsIx_lt hg284) (by omega) (by omega) hf
    · replace hf := bs_pos h286 hf
      refine x_iload_n C dL_act_51 rfl rfl ?_
      refine x_iconst (v := 4) C dL_act_52 (by decide) ?_
      refine x_icmp_ge (tgt := 105) C dL_act_53 (by decide) (fun h285 => ?_) (fun h285 => ?_)
      · replace hf := bs_pos h285 hf
        refine x_sub [4, 5, 6, 3, 2, 1, 0] rfl ?_
        exact qL_act_105  C hst  _ _ _ _ _ _ _ _  _ _ (bsIx_lt hg284) (by omega) (by omega) hf
      · replace hf := bs_neg h285 hf
        refine x_sub [4, 5] rfl ?_
        exact qL_act_56  C hst   _ _ _ _  _ _  (by omega) (by omega) hf
