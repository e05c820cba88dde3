/-! THE LAW: cases 43, 44; what they owe -/
theorem fz_z32 : FP.Core.decode FP.Core.b32 FP.fconst0.toNat ≠ .nan := fz_dec32 (by decide)
theorem fz_z64 : FP.Core.decode FP.Core.b64 FP.dconst0.toNat ≠ .nan := fz_dec64 (by decide)
theorem v_dstore {p : Program} {l : Launch} {e : Env} {R : Room} {s : State} {m : MethodId} {args : Array Value} {below : List Frame} {meth : Method} {c : Code} {cells slots : Nat} {Q : State → Prop} {ρ : bsR} {cA : Nat → ClassId} {dC : Nat → ClassId} {dI : Nat → Nat → Nat} {Rz : va_W} {nL : Nat} {cc : ByteArray} {Ts : List Cond} {own : String} {ret : Option FieldType} {pc : Nat} {lv : List (Nat × Value)} {st : List Value} {X : bsX} (C : bsCx p m c cc nL s args Ts own ρ cA dC dI Rz meth ret) {i : Nat} {x : UInt64} {lv' : List (Nat × Value)} (hd : decode cc pc = .ok (.dstore i, 2)) (hn : i + 1 < nL) (hx : (i, Value.double x) :: lv.filter (fun q => !(q.1 == i) && (!(q.1 == i + 1) && !(q.1 + 1 == i && q.2.category == 2))) = lv') (k : bsV p l e R s m args below meth c cells slots Q ρ cA dC dI Rz nL (pc + 2) lv' st X) : bsV p l e R s m args below meth c cells slots Q ρ cA dC dI Rz nL pc lv (Value.double x :: st) X := fun ls H locs hl hP hD hS => lv_dstore C.1.1 C.1.2.1 hd hl hn hx (fun ls hl => k ls H locs hl hP hD hS)
/-- what the pure part owes for successShare -/
def sim_successShare (I : Nat → bsX → Prop) : Prop := ∀ (j : Nat) (X : bsX), j < 512 → I j X → ∃ (r : Nat × UInt32 × bsX) (q : UInt32 × bsX), fX8_successShare X = some r ∧ (r.1 = 0 ∨ r.1 = 1) ∧ fX9_successShare r.2.2 = some q ∧ q.2 14 0 0 0 = (if r.1 = 1 then (1 : Int32) else (0 : Int32)) ∧ (r.1 = 0 → r.2.1 = q.1) ∧ FP.Core.decode FP.Core.b32 r.2.1.toNat ≠ .nan ∧ I (j + 1) q.2
set_option maxHeartbeats 4000000 in
set_option maxRecDepth 100000 in
theorem law_43 {p : Program} {l : Launch} {e : Env} {s : State} {m : MethodId} {below : List Frame} {meth : Method} {c : Code} {ρ : bsR} {cA : Nat → ClassId} {dC : Nat → ClassId} {dI : Nat → Nat → Nat} {b L : Nat} {xs : Nat → Int32} {I : Nat → bsX → Prop} (H : sim_successShare I) (LC : lawC p l s m meth c ρ cA dC dI b L xs) {j : Nat} (hj : 6 * j + 6 ≤ L) {cells slots : Nat} (hc1 : cells + 9 ≤ 601024) (hc2 : slots + 54 ≤ 7293033) {X : bsX} {lo : Int64} {od : UInt64} (hI : I j X) (kk : ∀ (X : bsX) (lo : Int64) (od : UInt64), I (j + 1) X → lawV p l e s m below meth c ρ cA dC dI b (cells + 9) (slots + 54) 3507 [(0, .ref b), (1, .ref (ρ 13 0 0)), (2, .ref (ρ 14 0 0)), (3, .ref (ρ 15 0 0)), (4, .ref (ρ 15 1 0)), (5, .int (nI (6 * j)))] [] X lo od) : lawV p l e s m below meth c ρ cA dC dI b cells slots 2511 [(0, .ref b), (1, .ref (ρ 13 0 0)), (2, .ref (ρ 14 0 0)), (3, .ref (ρ 15 0 0)), (4, .ref (ρ 15 1 0)), (5, .int (nI (6 * j)))] [] X lo od := by
  have hL9 : L ≤ 3072 := LC.2.2.2.2.1
  obtain ⟨hC, hX, hbl, hbA, hL, hst, hfr⟩ := LC
  have C := hC lo od
  obtain ⟨r, q, hf, hr, hg, ht, he, hn, hI2⟩ := H j X (by omega) hI
  refine v_aload_n C dL_law_2511 rfl rfl ?_
  refine v_aload C dL_law_2512 rfl ?_
  refine v_wcallS (y := yL_successShare) (As := [.ref (ρ 13 0 0), .ref (ρ 15 1 0)]) (rest := []) C (cL_successShare_ok hst hf hr (fz_f2d hn).1) mlw_337 wwL_successShare (by exact dpL_successShare) ⟨Nat.le_of_ble_eq_true rfl, Nat.le_of_ble_eq_true rfl⟩ ⟨by show cells + 1 ≤ 601024; omega, by show slots + 6 ≤ 7293033; omega⟩ rfl (Nat.le_of_ble_eq_true rfl) dL_law_2514 ?_
  have C := hC lo (if r.1 = 0 then (FP.f2d r.2.1) else od)
  generalize hlo : (if r.1 = 0 then (FP.f2d r.2.1) else od) = od9 at C ⊢
  dsimp only
  rw [← ht]
  refine v_istore (lv' := [(6, .int (q.2 14 0 0 0)), (0, .ref b), (1, .ref (ρ 13 0 0)), (2, .ref (ρ 14 0 0)), (3, .ref (ρ 15 0 0)), (4, .ref (ρ 15 1 0)), (5, .int (nI (6 * j)))]) C dL_law_2517 (by decide) rfl ?_
  refine v_aload_n C dL_law_2519 rfl rfl ?_
  refine v_callVf (y := yX9_successShare) (As := []) (rest := []) C (cX9_successShare_ok hg) mlw_340 wyX9_successShare bsm_X9 bsc_X9 rfl (by exact dpX9_successShare) ⟨Nat.le_of_ble_eq_true rfl, Nat.le_of_ble_eq_true rfl⟩ ⟨rfl, rfl⟩ ⟨by show cells + 1 ≤ 601024; omega, by show slots + 6 ≤ 7293033; omega⟩ rfl (Nat.le_of_ble_eq_true rfl) dL_law_2520 ?_
  refine v_fstore (lv' := [(7, .float q.1), (6, .int (q.2 14 0 0 0)), (0, .ref b), (1, .ref (ρ 13 0 0)), (2, .ref (ρ 14 0 0)), (3, .ref (ρ 15 0 0)), (4, .ref (ρ 15 1 0)), (5, .int (nI (6 * j)))]) C dL_law_2523 (by decide) rfl ?_
  refine v_aload_n C dL_law_2525 rfl rfl ?_
  refine v_callVi (y := yX9_thrown) (As := []) (rest := []) (z := (q.2 14 0 0 0, q.2)) C (cX9_thrown_ok rfl) mlw_205 wyX9_thrown bsm_X9 bsc_X9 rfl (by exact dpX9_thrown) ⟨Nat.le_of_ble_eq_true rfl, Nat.le_of_ble_eq_true rfl⟩ ⟨rfl, rfl⟩ ⟨by show cells + 1 ≤ 601024; omega, by show slots + 6 ≤ 7293033; omega⟩ rfl (Nat.le_of_ble_eq_true rfl) dL_law_2526 ?_
  refine v_iload C dL_law_2529 rfl ?_
  refine v_icmp_eq (tgt := 2536) C dL_law_2531 (by decide) (fun _ => ?_) (fun h => absurd rfl h)
  refine v_iload C dL_law_2536 rfl ?_
  refine v_if_ne (tgt := 2574) C dL_law_2538 (by decide) (fun _ => ?_) (fun h0 => ?_)
  · refine v_goto (tgt := 3507) C dL_law_2574 (by decide) ?_
    refine v_sub [2, 3, 4, 5, 6, 7] rfl ?_
    exact v_widen (by show cells + 1 ≤ cells + 9; omega) (by show slots + 6 ≤ slots + 54; omega) (kk q.2 lo od9 hI2)
  · have hr0 : r.1 = 0 := by
      rw [ht] at h0
      rcases hr with h1 | h1
      · exact h1
      · rw [h1] at h0; exact absurd h0 (by decide)
    have e0 := he hr0
    rw [if_pos hr0, e0] at hlo
    rw [e0] at hn
    refine v_aload C dL_law_2541 rfl ?_
    refine v_iconst (v := 0) C dL_law_2543 (by decide) ?_
    refine v_dald C dL_law_2544 ?_
    refine v_fload C dL_law_2545 rfl ?_
    refine v_f2d C dL_law_2547 (fz_f2d hn).1 ?_
    refine v_dcmp C dL_law_2548 ?_
    rw [show FP.dcmp od9 (FP.f2d q.1) = some .eq by rw [← hlo]; exact fz_same (fz_f2d hn).2, show Op.cmpValue (some .eq) .l = 0 from rfl]
    refine v_if_eq (tgt := 2574) C dL_law_2549 (by decide) (fun _ => ?_) (fun h => absurd rfl h)
    refine v_goto (tgt := 3507) C dL_law_2574 (by decide) ?_
    refine v_sub [2, 3, 4, 5, 6, 7] rfl ?_
    exact v_widen (by show cells + 1 ≤ cells + 9; omega) (by show slots + 6 ≤ slots + 54; omega) (kk q.2 lo od9 hI2)
theorem sim_successShare_ok : sim_successShare Inv := by
  intro j X hj h
  have n10 : ¬ (1 : Nat) = 0 := by decide
  have c10 : ¬ (1 : Int32) = 0 := by decide
  have h13 : X 13 0 0 7 = X 14 0 0 1 := h.2.1
  rcases h.req with ⟨e, e1, e2⟩ | ⟨e, e1, e2, n, t, Q, n1, hw, hR, ht, hQ⟩
  · refine ⟨(1, FP.fconst0, X), (FP.fconst0, th X 1), ?_, Or.inr rfl, ?_, th_rd X 1, fun q => absurd (show (1 : Nat) = 0 from q) n10, (fz_z32), ((quiet.refl X).thr 1).inv h⟩
    · unfold fX8_successShare; rw [h13, e, if_pos rfl]
    · unfold fX9_successShare; rw [e2, Option.bind_some, if_neg c10]
  · have hro := th_ro X 0 hR
    have r1 : th X 0 14 1 0 13 = X 0 4 0 0 := by rw [hro, ro_rd]; rfl
    have r2 : th X 0 14 1 0 17 = X 0 4 0 4 := by rw [hro, ro_rd]; rfl
    refine ⟨(0, fzF (X 0 4 0 4) (X 0 4 0 0), X), (fzF (X 0 4 0 4) (X 0 4 0 0), th X 0), ?_, Or.inl rfl, ?_, th_rd X 0, fun _ => rfl, fz_F _ _, ((quiet.refl X).thr 0).inv h⟩
    · unfold fX8_successShare; rw [h13, e, if_neg c10]
    · unfold fX9_successShare; rw [e2, Option.bind_some, if_pos rfl, ← r1, ← r2]
/-- what the pure part owes for meanBoot -/
def sim_meanBoot (I : Nat → bsX → Prop) : Prop := ∀ (j : Nat) (X : bsX), j < 512 → I j X → ∃ (r : Nat × UInt64 × bsX) (q : UInt64 × bsX), fX8_meanBoot X = some r ∧ (r.1 = 0 ∨ r.1 = 1) ∧ fX9_meanBoot r.2.2 = some q ∧ q.2 14 0 0 0 = (if r.1 = 1 then (1 : Int32) else (0 : Int32)) ∧ (r.1 = 0 → r.2.1 = q.1) ∧ FP.Core.decode FP.Core.b64 r.2.1.toNat ≠ .nan ∧ I (j + 1) q.2
set_option maxHeartbeats 4000000 in
set_option maxRecDepth 100000 in
theorem law_44 {p : Program} {l : Launch} {e : Env} {s : State} {m : MethodId} {below : List Frame} {meth : Method} {c : Code} {ρ : bsR} {cA : Nat → ClassId} {dC : Nat → ClassId} {dI : Nat → Nat → Nat} {b L : Nat} {xs : Nat → Int32} {I : Nat → bsX → Prop} (H : sim_meanBoot I) (LC : lawC p l s m meth c ρ cA dC dI b L xs) {j : Nat} (hj : 6 * j + 6 ≤ L) {cells slots : Nat} (hc1 : cells + 9 ≤ 601024) (hc2 : slots + 54 ≤ 7293033) {X : bsX} {lo : Int64} {od : UInt64} (hI : I j X) (kk : ∀ (X : bsX) (lo : Int64) (od : UInt64), I (j + 1) X → lawV p l e s m below meth c ρ cA dC dI b (cells + 9) (slots + 54) 3507 [(0, .ref b), (1, .ref (ρ 13 0 0)), (2, .ref (ρ 14 0 0)), (3, .ref (ρ 15 0 0)), (4, .ref (ρ 15 1 0)), (5, .int (nI (6 * j)))] [] X lo od) : lawV p l e s m below meth c ρ cA dC dI b cells slots 2577 [(0, .ref b), (1, .ref (ρ 13 0 0)), (2, .ref (ρ 14 0 0)), (3, .ref (ρ 15 0 0)), (4, .ref (ρ 15 1 0)), (5, .int (nI (6 * j)))] [] X lo od := by
  have hL9 : L ≤ 3072 := LC.2.2.2.2.1
  obtain ⟨hC, hX, hbl, hbA, hL, hst, hfr⟩ := LC
  have C := hC lo od
  obtain ⟨r, q, hf, hr, hg, ht, he, hn, hI2⟩ := H j X (by omega) hI
  refine v_aload_n C dL_law_2577 rfl rfl ?_
  refine v_aload C dL_law_2578 rfl ?_
  refine v_wcallS (y := yL_meanBoot) (As := [.ref (ρ 13 0 0), .ref (ρ 15 1 0)]) (rest := []) C (cL_meanBoot_ok hst hf hr) mlw_341 wwL_meanBoot (by exact dpL_meanBoot) ⟨Nat.le_of_ble_eq_true rfl, Nat.le_of_ble_eq_true rfl⟩ ⟨by show cells + 1 ≤ 601024; omega, by show slots + 6 ≤ 7293033; omega⟩ rfl (Nat.le_of_ble_eq_true rfl) dL_law_2580 ?_
  have C := hC lo (if r.1 = 0 then r.2.1 else od)
  generalize hlo : (if r.1 = 0 then r.2.1 else od) = od9 at C ⊢
  dsimp only
  rw [← ht]
  refine v_istore (lv' := [(6, .int (q.2 14 0 0 0)), (0, .ref b), (1, .ref (ρ 13 0 0)), (2, .ref (ρ 14 0 0)), (3, .ref (ρ 15 0 0)), (4, .ref (ρ 15 1 0)), (5, .int (nI (6 * j)))]) C dL_law_2583 (by decide) rfl ?_
  refine v_aload_n C dL_law_2585 rfl rfl ?_
  refine v_callVd (y := yX9_meanBoot) (As := []) (rest := []) C (cX9_meanBoot_ok hg) mlw_343 wyX9_meanBoot bsm_X9 bsc_X9 rfl (by exact dpX9_meanBoot) ⟨Nat.le_of_ble_eq_true rfl, Nat.le_of_ble_eq_true rfl⟩ ⟨rfl, rfl⟩ ⟨by show cells + 1 ≤ 601024; omega, by show slots + 6 ≤ 7293033; omega⟩ rfl (Nat.le_of_ble_eq_true rfl) dL_law_2586 ?_
  refine v_dstore (lv' := [(7, .double q.1), (6, .int (q.2 14 0 0 0)), (0, .ref b), (1, .ref (ρ 13 0 0)), (2, .ref (ρ 14 0 0)), (3, .ref (ρ 15 0 0)), (4, .ref (ρ 15 1 0)), (5, .int (nI (6 * j)))]) C dL_law_2589 (by decide) rfl ?_
  refine v_aload_n C dL_law_2591 rfl rfl ?_
  refine v_callVi (y := yX9_thrown) (As := []) (rest := []) (z := (q.2 14 0 0 0, q.2)) C (cX9_thrown_ok rfl) mlw_205 wyX9_thrown bsm_X9 bsc_X9 rfl (by exact dpX9_thrown) ⟨Nat.le_of_ble_eq_true rfl, Nat.le_of_ble_eq_true rfl⟩ ⟨rfl, rfl⟩ ⟨by show cells + 1 ≤ 601024; omega, by show slots + 6 ≤ 7293033; omega⟩ rfl (Nat.le_of_ble_eq_true rfl) dL_law_2592 ?_
  refine v_iload C dL_law_2595 rfl ?_
  refine v_icmp_eq (tgt := 2602) C dL_law_2597 (by decide) (fun _ => ?_) (fun h => absurd rfl h)
  refine v_iload C dL_law_2602 rfl ?_
  refine v_if_ne (tgt := 2639) C dL_law_2604 (by decide) (fun _ => ?_) (fun h0 => ?_)
  · refine v_goto (tgt := 3507) C dL_law_2639 (by decide) ?_
    refine v_sub [2, 3, 4, 5, 6, 7] rfl ?_
    exact v_widen (by show cells + 1 ≤ cells + 9; omega) (by show slots + 6 ≤ slots + 54; omega) (kk q.2 lo od9 hI2)
  · have hr0 : r.1 = 0 := by
      rw [ht] at h0
      rcases hr with h1 | h1
      · exact h1
      · rw [h1] at h0; exact absurd h0 (by decide)
    have e0 := he hr0
    rw [if_pos hr0, e0] at hlo
    rw [e0] at hn
    refine v_aload C dL_law_2607 rfl ?_
    refine v_iconst (v := 0) C dL_law_2609 (by decide) ?_
    refine v_dald C dL_law_2610 ?_
    refine v_dload C dL_law_2611 rfl ?_
    refine v_dcmp C dL_law_2613 ?_
    rw [show FP.dcmp od9 q.1 = some .eq by rw [← hlo]; exact fz_same hn, show Op.cmpValue (some .eq) .l = 0 from rfl]
    refine v_if_eq (tgt := 2639) C dL_law_2614 (by decide) (fun _ => ?_) (fun h => absurd rfl h)
    refine v_goto (tgt := 3507) C dL_law_2639 (by decide) ?_
    refine v_sub [2, 3, 4, 5, 6, 7] rfl ?_
    exact v_widen (by show cells + 1 ≤ cells + 9; omega) (by show slots + 6 ≤ slots + 54; omega) (kk q.2 lo od9 hI2)
theorem sim_meanBoot_ok : sim_meanBoot Inv := by
  intro j X hj h
  have n10 : ¬ (1 : Nat) = 0 := by decide
  have c10 : ¬ (1 : Int32) = 0 := by decide
  have h13 : X 13 0 0 7 = X 14 0 0 1 := h.2.1
  rcases h.req with ⟨e, e1, e2⟩ | ⟨e, e1, e2, n, t, Q, n1, hw, hR, ht, hQ⟩
  · refine ⟨(1, FP.dconst0, X), (FP.dconst0, th X 1), ?_, Or.inr rfl, ?_, th_rd X 1, fun q => absurd (show (1 : Nat) = 0 from q) n10, (fz_z64), ((quiet.refl X).thr 1).inv h⟩
    · unfold fX8_meanBoot; rw [h13, e, if_pos rfl]
    · unfold fX9_meanBoot; rw [e2, Option.bind_some, if_neg c10]
  · have hro := th_ro X 0 hR
    have r1 : th X 0 14 1 0 12 = X 0 3 0 4 := by rw [hro, ro_rd]; rfl
    have r2 : th X 0 14 1 0 1 = X 0 0 0 9 := by rw [hro, ro_rd]; rfl
    refine ⟨(0, fzD (X 0 0 0 9) (X 0 3 0 4), X), (fzD (X 0 0 0 9) (X 0 3 0 4), th X 0), ?_, Or.inl rfl, ?_, th_rd X 0, fun _ => rfl, fz_D _ _, ((quiet.refl X).thr 0).inv h⟩
    · unfold fX8_meanBoot; rw [h13, e, if_neg c10]
    · unfold fX9_meanBoot; rw [e2, Option.bind_some, if_pos rfl, ← r1, ← r2]
