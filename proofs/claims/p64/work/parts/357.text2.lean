/-! BootSlotsLaw.feeds, tell -/
theorem jd_div4 : ∀ k, k < 20 → nI k / 4 = nI (k / 4) := by decide +kernel
/-- the words of a text's twenty bytes from i on, when k of them are in -/
def hWrd (t : Nat → Nat) (n i : Nat) : Nat → Nat → Int32
  | 0 => fun _ => 0
  | k + 1 => upd (hWrd t n i k) (k / 4) ((hWrd t n i k (k / 4) <<< ((8 : Int32) &&& 31)) ||| (if i + k < n then nI (t (i + k)) else 32))
def hFd (t : Nat → Nat) (n : Nat) : Nat → Nat → bsX → Option (Int32 × bsX)
  | 0, _, _ => none
  | f + 1, i, X => if i < n then ((fX8_append (hWrd t n i 20 0) (hWrd t n i 20 1) (hWrd t n i 20 2) (hWrd t n i 20 3) (hWrd t n i 20 4) X).bind fun r => if 0 ≤ r.1 then hFd t n f (i + 20) r.2 else some ((0 : Int32), r.2)) else some ((1 : Int32), X)
def hL_feeds (t : Nat → Nat) (n : Nat) (X : bsX) : Option (Int32 × bsX) := hFd t n 27 0 X
abbrev rmL_feeds : Room := { frames := 5, cells := 30, slots := 150, locals := 130 }
set_option maxHeartbeats 4000000 in
set_option maxRecDepth 100000 in
theorem qL_feeds_17 {p : Program} {l : Launch} {e : Env} {s : State} {m : MethodId} {args : Array Value} {below : List Frame} {meth : Method} {c : Code} {ρ : bsR} {sc L : Nat} {xs : Nat → Int32} {cA : Nat → ClassId} {dC : Nat → ClassId} {dI : Nat → Nat → Nat} {A : Nat → Prop} {Ts : List Cond} {Rz : va_W} {q0 q1 g v n : Nat} {t : Nat → Nat} {a : Nat → Int32} {i u : Nat} {X : bsX} {z : Int32 × bsX} (C : xCx p m c cL_feeds 5 s args Ts RL ρ sc L xs cA dC dI A meth (some .boolean)) (he : Rz[q0]? = some (g, stC v)) (hv : Rz[q1]? = some (v, byC cA n a)) (hL : sb_Lat t n a) (hn : n ≤ 512) {cl sl : Nat} (hcl : cl ≤ 30) (hsl : sl ≤ 150) (hi : i ≤ 1000) (hk : xV p l e rmL_feeds s m args below meth c cl sl (MQ below (xQi ρ cA dC dI A (fun r X' R' => r = z.1 ∧ X' = z.2 ∧ R' = Rz)) args s rmL_feeds.cells rmL_feeds.slots A) ρ cA dC dI A (Rz ++ ([] ++ [(u, .inl (cA 0, 5, .inl (hWrd t n i 20)))])) 5 70 [(3, .ref u), (2, .int (nI i)), (0, .ref (ρ 13 0 0)), (1, .ref g)] [] X) : ∀ (d k : Nat), k + d = 20 → xV p l e rmL_feeds s m args below meth c cl sl (MQ below (xQi ρ cA dC dI A (fun r X' R' => r = z.1 ∧ X' = z.2 ∧ R' = Rz)) args s rmL_feeds.cells rmL_feeds.slots A) ρ cA dC dI A (Rz ++ ([] ++ [(u, .inl (cA 0, 5, .inl (hWrd t n i k)))])) 5 17 [(4, .int (nI k)), (3, .ref u), (2, .int (nI i)), (0, .ref (ρ 13 0 0)), (1, .ref g)] [] X := by
  intro d
  induction d with
  | zero =>
    intro k hkd
    obtain rfl : k = 20 := by omega
    refine x_iload C dL_feeds_17 rfl ?_
    refine x_bipush (v := 20) C dL_feeds_19 (by decide) ?_
    refine x_icmp_ge (tgt := 70) C dL_feeds_21 (by decide) (fun _ => ?_) (fun h => absurd (by decide) h)
    refine x_sub [1, 2, 3, 4] rfl ?_
    exact hk
  | succ d ih =>
    intro k hkd
    have he2 := (List.getElem?_append_left (l₂ := [] ++ ([(u, .inl (cA 0, 5, .inl (hWrd t n i k)))] : va_W)) (List.getElem?_eq_some_iff.mp he).1).trans he
    have hv2 := (List.getElem?_append_left (l₂ := [] ++ ([(u, .inl (cA 0, 5, .inl (hWrd t n i k)))] : va_W)) (List.getElem?_eq_some_iff.mp hv).1).trans hv
    refine x_iload C dL_feeds_17 rfl ?_
    refine x_bipush (v := 20) C dL_feeds_19 (by decide) ?_
    refine x_icmp_ge (tgt := 70) C dL_feeds_21 (by decide) (fun h => absurd h (show ¬ nI 20 ≤ nI k from nI_ge (by omega) (by decide))) (fun _ => ?_)
    refine x_aload_n C dL_feeds_24 rfl rfl ?_
    refine x_iload C dL_feeds_25 rfl ?_
    refine x_iconst (v := 4) C dL_feeds_27 (by decide) ?_
    refine x_idiv C dL_feeds_28 (by decide) ?_
    refine x_topi (y := (nI (k / 4))) (jd_div4 k (by omega)) ?_
    refine x_aload_n C dL_feeds_29 rfl rfl ?_
    refine x_iload C dL_feeds_30 rfl ?_
    refine x_iconst (v := 4) C dL_feeds_32 (by decide) ?_
    refine x_idiv C dL_feeds_33 (by decide) ?_
    refine x_topi (y := (nI (k / 4))) (jd_div4 k (by omega)) ?_
    refine xu_ld C 0 rfl (vp_in_iff.mp (vp_in_nI (show k / 4 < 5 by omega) (by decide))) dL_feeds_34 ?_
    refine x_topi (y := (hWrd t n i k (k / 4))) (by rw [show bsIx (nI (k / 4)) = k / 4 from nI_clamp (by omega)]) ?_
    refine x_bipush (v := 8) C dL_feeds_35 (by decide) ?_
    refine x_ishl C dL_feeds_37 ?_
    refine x_iload_n C dL_feeds_38 rfl rfl ?_
    refine x_iload C dL_feeds_39 rfl ?_
    refine x_iadd C dL_feeds_41 ?_
    refine x_topi (y := (nI (i + k))) (nI_add i k) ?_
    refine x_aload_n C dL_feeds_42 rfl rfl ?_
    refine x_callVi (y := yJ0_length_8abf5) (As := []) (rest := [.int (nI (i + k)), .int ((hWrd t n i k (k / 4)) <<< (8 &&& 31)), .int (nI (k / 4)), .ref u]) C (cJ0_length_8abf5R_ok he2 hv2) (bsG_in 789 (by decide +kernel) rfl) wyJ0_length_8abf5 he2 rfl dpJ0_length_8abf5 ⟨Nat.le_of_ble_eq_true rfl, Nat.le_of_ble_eq_true rfl⟩ ⟨by show cl + 0 ≤ 30; omega, by show sl + 0 ≤ 150; omega⟩ rfl (Nat.le_of_ble_eq_true rfl) dL_feeds_43 (fun r X' R' hp => ?_)
    obtain ⟨e1, e2, e3⟩ := hp
    rw [e1, e2, e3]
    clear e1 e2 e3 r X' R'
    refine x_widen (k := cl) (n := sl) (Nat.le_refl _) (Nat.le_refl _) ?_
    have hnx : hWrd t n i (k + 1) = upd (hWrd t n i k) (k / 4) ((hWrd t n i k (k / 4) <<< ((8 : Int32) &&& 31)) ||| (if i + k < n then nI (t (i + k)) else 32)) := rfl
    refine x_icmp_ge (tgt := 60) C dL_feeds_46 (by decide) (fun hb => ?_) (fun hb => ?_)
    · have hin : ¬ i + k < n := fun q => nI_ge (b := n) (a := i + k) q (by omega) hb
      refine x_bipush (v := 32) C dL_feeds_60 (by decide) ?_
      refine x_ior C dL_feeds_62 ?_
      have hE : upd (hWrd t n i k) (bsIx (nI (k / 4))) ((hWrd t n i k (k / 4) <<< ((8 : Int32) &&& 31)) ||| 32) = hWrd t n i (k + 1) := by rw [hnx, show bsIx (nI (k / 4)) = k / 4 from nI_clamp (by omega), if_neg hin]
      refine xu_st (T' := [(u, .inl (cA 0, 5, .inl (hWrd t n i (k + 1))))]) C 0 rfl (vp_in_iff.mp (vp_in_nI (show k / 4 < 5 by omega) (by decide))) (by rw [hE]; rfl) dL_feeds_63 ?_
      refine x_iinc (v := (nI (k + 1))) (lv' := [(4, .int (nI (k + 1))), (3, .ref u), (2, .int (nI i)), (0, .ref (ρ 13 0 0)), (1, .ref g)]) C dL_feeds_64 (k0 := 0) rfl (nI_1 k) (by decide) rfl ?_
      refine x_goto (tgt := 17) C dL_feeds_67 (by decide) ?_
      refine x_sub [0, 1, 2, 3, 4] rfl ?_
      exact ih (k + 1) (by omega)
    · have hin : i + k < n := Nat.lt_of_not_le (fun q => hb (nI_le q (by omega)))
      refine x_aload_n C dL_feeds_49 rfl rfl ?_
      refine x_iload_n C dL_feeds_50 rfl rfl ?_
      refine x_iload C dL_feeds_51 rfl ?_
      refine x_iadd C dL_feeds_53 ?_
      refine x_topi (y := (nI (i + k))) (nI_add i k) ?_
      refine x_callVi (y := yJ0_charAt_5068e) (As := [.int (nI (i + k))]) (rest := [.int ((hWrd t n i k (k / 4)) <<< (8 &&& 31)), .int (nI (k / 4)), .ref u]) C (cJ0_charAt_5068eR_ok he2 hv2 hL hin (by omega)) (bsG_in 790 (by decide +kernel) rfl) wyJ0_charAt_5068e he2 rfl dpJ0_charAt_5068e ⟨Nat.le_of_ble_eq_true rfl, Nat.le_of_ble_eq_true rfl⟩ ⟨by show cl + 0 ≤ 30; omega, by show sl + 0 ≤ 150; omega⟩ rfl (Nat.le_of_ble_eq_true rfl) dL_feeds_54 (fun r X' R' hp => ?_)
      obtain ⟨e1, e2, e3⟩ := hp
      rw [e1, e2, e3]
      clear e1 e2 e3 r X' R'
      refine x_widen (k := cl) (n := sl) (Nat.le_refl _) (Nat.le_refl _) ?_
      refine x_goto (tgt := 62) C dL_feeds_57 (by decide) ?_
      refine x_ior C dL_feeds_62 ?_
      have hE : upd (hWrd t n i k) (bsIx (nI (k / 4))) ((hWrd t n i k (k / 4) <<< ((8 : Int32) &&& 31)) ||| nI (t (i + k))) = hWrd t n i (k + 1) := by rw [hnx, show bsIx (nI (k / 4)) = k / 4 from nI_clamp (by omega), if_pos hin]
      refine xu_st (T' := [(u, .inl (cA 0, 5, .inl (hWrd t n i (k + 1))))]) C 0 rfl (vp_in_iff.mp (vp_in_nI (show k / 4 < 5 by omega) (by decide))) (by rw [hE]; rfl) dL_feeds_63 ?_
      refine x_iinc (v := (nI (k + 1))) (lv' := [(4, .int (nI (k + 1))), (3, .ref u), (2, .int (nI i)), (0, .ref (ρ 13 0 0)), (1, .ref g)]) C dL_feeds_64 (k0 := 0) rfl (nI_1 k) (by decide) rfl ?_
      refine x_goto (tgt := 17) C dL_feeds_67 (by decide) ?_
      refine x_sub [0, 1, 2, 3, 4] rfl ?_
      exact ih (k + 1) (by omega)
theorem wyX8_append : bsWy yX8_append cX8_append 6 (some .int) := ⟨(bsG_in 809 (by decide +kernel) rfl), (bsG_in 810 (by decide +kernel) rfl), (bsG_in 52 (by decide +kernel) rfl), (bsG_in 811 (by decide +kernel) rfl), by decide +kernel, by decide +kernel⟩
theorem dpX8_append : (parseMethodDescriptor yX8_append.desc).map (fun d => d.parameters.length) = some 5 := by decide +kernel
set_option maxHeartbeats 4000000 in
set_option maxRecDepth 100000 in
theorem qL_feeds_2 {p : Program} {l : Launch} {e : Env} {s : State} {m : MethodId} {args : Array Value} {below : List Frame} {meth : Method} {c : Code} {ρ : bsR} {sc L : Nat} {xs : Nat → Int32} {cA : Nat → ClassId} {dC : Nat → ClassId} {dI : Nat → Nat → Nat} {A : Nat → Prop} {Ts : List Cond} {Rz : va_W} {q0 q1 g v n : Nat} {t : Nat → Nat} {a : Nat → Int32} {z : Int32 × bsX} (C : xCx p m c cL_feeds 5 s args Ts RL ρ sc L xs cA dC dI A meth (some .boolean)) (he : Rz[q0]? = some (g, stC v)) (hv : Rz[q1]? = some (v, byC cA n a)) (hL : sb_Lat t n a) (hn : n ≤ 512) : ∀ (f i : Nat) (X : bsX) (cl sl : Nat), i + 20 * f ≤ 540 → cl + f ≤ 27 → sl + 5 * f ≤ 135 → hFd t n f i X = some z → xV p l e rmL_feeds s m args below meth c cl sl (MQ below (xQi ρ cA dC dI A (fun r X' R' => r = z.1 ∧ X' = z.2 ∧ R' = Rz)) args s rmL_feeds.cells rmL_feeds.slots A) ρ cA dC dI A Rz 5 2 [(2, .int (nI i)), (0, .ref (ρ 13 0 0)), (1, .ref g)] [] X := by
  intro f
  induction f with
  | zero => intro i X cl sl _ _ _ hf; exact (nomatch hf)
  | succ f ih =>
    intro i X cl sl hif hcl hsl hf
    rw [hFd] at hf
    refine x_iload_n C dL_feeds_2 rfl rfl ?_
    refine x_aload_n C dL_feeds_3 rfl rfl ?_
    refine x_callVi (y := yJ0_length_8abf5) (As := []) (rest := [.int (nI i)]) C (cJ0_length_8abf5R_ok he hv) (bsG_in 789 (by decide +kernel) rfl) wyJ0_length_8abf5 he rfl dpJ0_length_8abf5 ⟨Nat.le_of_ble_eq_true rfl, Nat.le_of_ble_eq_true rfl⟩ ⟨by show cl + 0 ≤ 30; omega, by show sl + 0 ≤ 150; omega⟩ rfl (Nat.le_of_ble_eq_true rfl) dL_feeds_4 (fun r X' R' hp => ?_)
    obtain ⟨e1, e2, e3⟩ := hp
    rw [e1, e2, e3]
    clear e1 e2 e3 r X' R'
    refine x_widen (k := cl) (n := sl) (Nat.le_refl _) (Nat.le_refl _) ?_
    refine x_icmp_ge (tgt := 100) C dL_feeds_7 (by decide) (fun hb => ?_) (fun hb => ?_)
    · rw [if_neg (fun q => nI_ge (b := n) (a := i) q (by omega) hb)] at hf
      obtain rfl := Option.some.inj hf
      refine x_iconst (v := 1) C dL_feeds_100 (by decide) ?_
      exact x_xret C rfl ⟨rfl, rfl, rfl⟩ (by show cl ≤ 30; omega) (by show sl ≤ 150; omega) dL_feeds_101
    · have hin : i < n := Nat.lt_of_not_le (fun q => hb (nI_le q (by omega)))
      rw [if_pos hin] at hf
      obtain ⟨r1, hc1, hf⟩ := bs_bind hf
      refine x_iconst (v := 5) C dL_feeds_10 (by decide) ?_
      refine x_newi (N := 5) C (by decide) (by decide) (by decide) ⟨by show cl + 1 ≤ 30; omega, by show sl + 5 ≤ 150; omega⟩ dL_feeds_11 (fun u => ?_)
      refine x_eq (Rz' := (Rz ++ ([] ++ [(u, .inl (cA 0, 5, .inl (hWrd t n i 0)))]))) rfl ?_
      refine x_astore_n (lv' := [(3, .ref u), (2, .int (nI i)), (0, .ref (ρ 13 0 0)), (1, .ref g)]) C dL_feeds_13 rfl (by decide) rfl ?_
      refine x_iconst (v := 0) C dL_feeds_14 (by decide) ?_
      refine x_istore (lv' := [(4, .int 0), (3, .ref u), (2, .int (nI i)), (0, .ref (ρ 13 0 0)), (1, .ref g)]) C dL_feeds_15 (by decide) rfl ?_
      refine x_sub [0, 1, 2, 3, 4] rfl ?_
      refine qL_feeds_17 C he hv hL hn (cl := cl + 1) (sl := sl + 5) (by omega) (by omega) (by omega) ?_ 20 0 (by omega)
      refine x_aload_n C dL_feeds_70 rfl rfl ?_
      refine x_aload_n C dL_feeds_71 rfl rfl ?_
      refine x_iconst (v := 0) C dL_feeds_72 (by decide) ?_
      refine xu_ld C 0 rfl (by decide) dL_feeds_73 ?_
      refine x_aload_n C dL_feeds_74 rfl rfl ?_
      refine x_iconst (v := 1) C dL_feeds_75 (by decide) ?_
      refine xu_ld C 0 rfl (by decide) dL_feeds_76 ?_
      refine x_aload_n C dL_feeds_77 rfl rfl ?_
      refine x_iconst (v := 2) C dL_feeds_78 (by decide) ?_
      refine xu_ld C 0 rfl (by decide) dL_feeds_79 ?_
      refine x_aload_n C dL_feeds_80 rfl rfl ?_
      refine x_iconst (v := 3) C dL_feeds_81 (by decide) ?_
      refine xu_ld C 0 rfl (by decide) dL_feeds_82 ?_
      refine x_aload_n C dL_feeds_83 rfl rfl ?_
      refine x_iconst (v := 4) C dL_feeds_84 (by decide) ?_
      refine xu_ld C 0 rfl (by decide) dL_feeds_85 ?_
      refine x_callBi (y := yX8_append) (As := [.int (hWrd t n i 20 0), .int (hWrd t n i 20 1), .int (hWrd t n i 20 2), .int (hWrd t n i 20 3), .int (hWrd t n i 20 4)]) (rest := []) C (cX8_append_ok hc1) (bsG_in 808 (by decide +kernel) rfl) wyX8_append bsm_X8 bsc_X8 rfl dpX8_append ⟨Nat.le_of_ble_eq_true rfl, Nat.le_of_ble_eq_true rfl⟩ ⟨rfl, rfl⟩ ⟨by show cl + 1 ≤ 30; omega, by show sl + 5 ≤ 150; omega⟩ rfl (Nat.le_of_ble_eq_true rfl) dL_feeds_86 ?_
      refine x_subl (Rz' := Rz) (List.sublist_append_left Rz _) ?_
      refine x_if_ge (tgt := 94) C dL_feeds_89 (by decide) (fun h3 => ?_) (fun h3 => ?_)
      · rw [if_pos h3] at hf
        refine x_iinc (v := (nI (i + 20))) (lv' := [(2, .int (nI (i + 20))), (3, .ref u), (0, .ref (ρ 13 0 0)), (1, .ref g)]) C dL_feeds_94 (k0 := 1) rfl (show nI i + 20 = nI (i + 20) from nI_add i 20) (by decide) rfl ?_
        refine x_goto (tgt := 2) C dL_feeds_97 (by decide) ?_
        refine x_sub [0, 2, 3] rfl ?_
        exact ih (i + 20) r1.2 _ _ (by omega) (by omega) (by omega) hf
      · rw [if_neg h3] at hf
        obtain rfl := Option.some.inj hf
        refine x_iconst (v := 0) C dL_feeds_92 (by decide) ?_
        exact x_xret C rfl ⟨rfl, rfl, rfl⟩ (by show cl + 1 ≤ 30; omega) (by show sl + 5 ≤ 150; omega) dL_feeds_93
set_option maxHeartbeats 4000000 in
set_option maxRecDepth 100000 in
theorem cL_feeds_ok {l : Launch} {ρ : bsR} {sc L : Nat} {xs : Nat → Int32} {cA : Nat → ClassId} {dC : Nat → ClassId} {dI : Nat → Nat → Nat} {X : bsX} {Rz : va_W} {q0 q1 g v n : Nat} {t : Nat → Nat} {a : Nat → Int32} {z : Int32 × bsX} (he : Rz[q0]? = some (g, stC v)) (hv : Rz[q1]? = some (v, byC cA n a)) (hL : sb_Lat t n a) (hn : n ≤ 512) (hf : hL_feeds t n X = some z) : xMi l yL_feeds cL_feeds 5 (some .boolean) rmL_feeds ρ sc L xs cA dC dI [.ref (ρ 13 0 0), .ref g] X Rz (fun r X' R' => r = z.1 ∧ X' = z.2 ∧ R' = Rz) := by
  refine xMi_of (by decide +kernel) (Nat.le_of_ble_eq_true rfl) (fun p e s m args below meth c C => ?_)
  have C : xCx p m c cL_feeds 5 s args (Cond.code yL_feeds cL_feeds 5 (some .boolean) :: bsG) RL ρ sc L xs cA dC dI (bsA ρ cA Rz s.heap.size) meth (some .boolean) := C
  rw [hL_feeds] at hf
  refine x_sub [0, 1] rfl ?_
  refine x_iconst (v := 0) C dL_feeds_0 (by decide) ?_
  refine x_istore_n (lv' := [(2, .int 0), (0, .ref (ρ 13 0 0)), (1, .ref g)]) C dL_feeds_1 rfl (by decide) rfl ?_
  refine x_sub [0, 1, 2] rfl ?_
  exact qL_feeds_2 C he hv hL hn 27 0 X _ _ (by decide) (by decide) (by decide) hf
theorem wzL_feeds : bsWz yL_feeds cL_feeds 5 (some .boolean) := ⟨(bsG_in 787 (by decide +kernel) rfl), (bsG_in 37 (by decide +kernel) rfl), (bsG_in 788 (by decide +kernel) rfl), by decide +kernel, by decide +kernel⟩
theorem dpL_feeds : (parseMethodDescriptor yL_feeds.desc).map (fun d => d.parameters.length) = some 2 := by decide +kernel
def hL_tell (t : Nat → Nat) (n : Nat) (X : bsX) : Option (Int32 × bsX) := (hL_feeds t n X).bind fun q => if q.1 = 0 then some ((-9 : Int32), q.2) else ((fX8_load (nI n) q.2).bind fun r => if r.1 = 0 then some (r.2.1, r.2.2) else none)
abbrev rmL_tell : Room := { frames := 11, cells := 31, slots := 156, locals := 260 }
theorem wyX8_load : bsWy yX8_load cX8_load 3 (some .int) := ⟨(bsG_in 817 (by decide +kernel) rfl), (bsG_in 818 (by decide +kernel) rfl), (bsG_in 52 (by decide +kernel) rfl), (bsG_in 819 (by decide +kernel) rfl), by decide +kernel, by decide +kernel⟩
theorem dpX8_load : (parseMethodDescriptor yX8_load.desc).map (fun d => d.parameters.length) = some 1 := by decide +kernel
set_option maxHeartbeats 4000000 in
set_option maxRecDepth 100000 in
theorem cL_tell_ok {l : Launch} {ρ : bsR} {sc L : Nat} {xs : Nat → Int32} {cA : Nat → ClassId} {dC : Nat → ClassId} {dI : Nat → Nat → Nat} {X : bsX} {Rz : va_W} {q0 q1 g v n : Nat} {t : Nat → Nat} {a : Nat → Int32} {z : Int32 × bsX} (hst : l.stackTraces = false) (he : Rz[q0]? = some (g, stC v)) (hv : Rz[q1]? = some (v, byC cA n a)) (hL : sb_Lat t n a) (hn : n ≤ 512) (hf : hL_tell t n X = some z) : xMi l yL_tell cL_tell 2 (some .int) rmL_tell ρ sc L xs cA dC dI [.ref (ρ 13 0 0), .ref g] X Rz (fun r X' R' => r = z.1 ∧ X' = z.2 ∧ R' = Rz) := by
  refine xMi_of (by decide +kernel) (Nat.le_of_ble_eq_true rfl) (fun p e s m args below meth c C => ?_)
  have C : xCx p m c cL_tell 2 s args (Cond.code yL_tell cL_tell 2 (some .int) :: bsG) RL ρ sc L xs cA dC dI (bsA ρ cA Rz s.heap.size) meth (some .int) := C
  rw [hL_tell] at hf
  obtain ⟨q1, hc1, hf⟩ := bs_bind hf
  refine x_sub [0, 1] rfl ?_
  refine x_aload_n C dL_tell_0 rfl rfl ?_
  refine x_aload_n C dL_tell_1 rfl rfl ?_
  refine x_callSi (y := yL_feeds) (As := [.ref (ρ 13 0 0), .ref g]) (rest := []) C (cL_feeds_ok he hv hL hn hc1) (bsG_in 786 (by decide +kernel) rfl) wzL_feeds dpL_feeds ⟨Nat.le_of_ble_eq_true rfl, Nat.le_of_ble_eq_true rfl⟩ ⟨Nat.le_of_ble_eq_true rfl, Nat.le_of_ble_eq_true rfl⟩ rfl (Nat.le_of_ble_eq_true rfl) dL_tell_2 (fun r X' R' hp => ?_)
  obtain ⟨e1, e2, e3⟩ := hp
  rw [e1, e2, e3]
  clear e1 e2 e3 r X' R'
  refine x_if_eq (tgt := 19) C dL_tell_5 (by decide) (fun h3 => ?_) (fun h3 => ?_)
  · rw [if_pos h3] at hf
    obtain rfl := Option.some.inj hf
    refine x_bipush (v := (-9)) C dL_tell_19 (by decide) ?_
    exact x_iret C ⟨rfl, rfl, rfl⟩ (Nat.le_of_ble_eq_true rfl) (Nat.le_of_ble_eq_true rfl) dL_tell_21
  · rw [if_neg h3] at hf
    obtain ⟨r1, hc2, hf⟩ := bs_bind hf
    obtain ⟨h1, hf⟩ := bs_if hf
    obtain rfl := Option.some.inj hf
    refine x_aload_n C dL_tell_8 rfl rfl ?_
    refine x_aload_n C dL_tell_9 rfl rfl ?_
    refine x_callVi (y := yJ0_length_8abf5) (As := []) (rest := [.ref (ρ 13 0 0)]) C (cJ0_length_8abf5R_ok he hv) (bsG_in 789 (by decide +kernel) rfl) wyJ0_length_8abf5 he rfl dpJ0_length_8abf5 ⟨Nat.le_of_ble_eq_true rfl, Nat.le_of_ble_eq_true rfl⟩ ⟨Nat.le_of_ble_eq_true rfl, Nat.le_of_ble_eq_true rfl⟩ rfl (Nat.le_of_ble_eq_true rfl) dL_tell_10 (fun r X' R' hp => ?_)
    obtain ⟨e1, e2, e3⟩ := hp
    rw [e1, e2, e3]
    clear e1 e2 e3 r X' R'
    refine x_callT (y := yX8_load) (As := [.int (nI n)]) (rest := []) C (cX8_load_ok hst hc2) h1 (bsG_in 816 (by decide +kernel) rfl) wyX8_load bsm_X8 bsc_X8 rfl dpX8_load ⟨Nat.le_of_ble_eq_true rfl, Nat.le_of_ble_eq_true rfl⟩ ⟨Nat.le_of_ble_eq_true rfl, Nat.le_of_ble_eq_true rfl⟩ rfl (Nat.le_of_ble_eq_true rfl) dL_tell_13 ?_
    refine x_goto (tgt := 21) C dL_tell_16 (by decide) ?_
    exact x_iret C ⟨rfl, rfl, rfl⟩ (Nat.le_of_ble_eq_true rfl) (Nat.le_of_ble_eq_true rfl) dL_tell_21
